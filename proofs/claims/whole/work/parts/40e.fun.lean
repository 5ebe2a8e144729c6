/-! ===== printed by wip/gen/dec.py: the methods as functions, each with its run ===== -/
def fX11_isPass_J23 (n : Nat) (s : zs) (y0 : Int32) : Option Int32 := if y0 = 0 ∨ y0 = 1 then some y0 else none
theorem tX11_isPass_J23 {n : Nat} {c : Nat × Nat} {s : zs} {y0 : Int32} {r : Int32} (h : fX11_isPass_J23 n s y0 = some r) : zr kX11_isPass 2 0 23 [none, none] [.int y0] (zS c s) (some (.int r)) (zS c s) := by
  unfold fX11_isPass_J23 at h
  obtain ⟨gz, h⟩ := zt_inv h
  obtain rfl := Option.some.inj h
  exact zq_zret rfl gz
def fX11_isPass_J18 (n : Nat) (s : zs) : Option Int32 := fX11_isPass_J23 n s (1 : Int32)
theorem tX11_isPass_J18 {n : Nat} {c : Nat × Nat} {s : zs} {r : Int32} (h : fX11_isPass_J18 n s = some r) : zr kX11_isPass 2 0 18 [none, none] [] (zS c s) (some (.int r)) (zS c s) := by
  unfold fX11_isPass_J18 at h
  refine zr_many 2 (pc' := 23) (L' := [none, none]) (st' := [.int (1 : Int32)]) (S1 := zS c s) rfl ?_
  exact zr_wk [none, none] trivial (tX11_isPass_J23 h)
def fX11_isPass (n : Nat) (s : zs) (x0 : Int32) : Option Int32 := if (x0 / (1000 : Int32)) = (117 : Int32) then fX11_isPass_J18 n s else if ¬ (x0 / (1000 : Int32)) = (100 : Int32) then fX11_isPass_J23 n s (0 : Int32) else fX11_isPass_J18 n s
theorem tX11_isPass {n : Nat} {c : Nat × Nat} {s : zs} {x0 : Int32} {r : Int32} (h : fX11_isPass n s x0 = some r) : zc 1 2226 [.int x0] (zS c s) (some (.int r)) (zS c s) := by
  refine zc_of (k := kX11_isPass) (rt := 2) (L := [some (.int x0), none]) zm_2226.1 rfl rfl (by decide) rfl rfl ?_
  unfold fX11_isPass at h
  refine zr_many 2 (pc' := 4) (L' := [some (.int x0), none]) (st' := [.int (1000 : Int32), .int x0]) (S1 := zS c s) rfl ?_
  refine zq_idiv rfl (by decide) rfl ?_
  refine zr_many 3 (pc' := 9) (L' := [some (.int x0), some (.int (x0 / (1000 : Int32)))]) (st' := [.int (117 : Int32), .int (x0 / (1000 : Int32))]) (S1 := zS c s) rfl ?_
  refine zq_if2 (b := (x0 / (1000 : Int32)) = (117 : Int32)) rfl Iff.rfl rfl (fun g1 => ?_) (fun g1 => ?_)
  · rw [if_pos g1] at h
    exact zr_wk [none, none] trivial (tX11_isPass_J18 h)
  · rw [if_neg g1] at h
    refine zr_many 2 (pc' := 15) (L' := [some (.int x0), some (.int (x0 / (1000 : Int32)))]) (st' := [.int (100 : Int32), .int (x0 / (1000 : Int32))]) (S1 := zS c s) rfl ?_
    refine zq_if2 (b := ¬ (x0 / (1000 : Int32)) = (100 : Int32)) rfl Iff.rfl rfl (fun g2 => ?_) (fun g2 => ?_)
    · rw [if_pos g2] at h
      refine zr_many 1 (pc' := 23) (L' := [some (.int x0), some (.int (x0 / (1000 : Int32)))]) (st' := [.int (0 : Int32)]) (S1 := zS c s) rfl ?_
      exact zr_wk [none, none] trivial (tX11_isPass_J23 h)
    · rw [if_neg g2] at h
      exact zr_wk [none, none] trivial (tX11_isPass_J18 h)
def fX11_perform (n : Nat) (s : zs) (x1 : Int32) : Option (Int32 × zs) := if (x1 / (1000 : Int32)) = (100 : Int32) then zb (fX9_go n s 17 (x1 - x1 / (1000 : Int32) * (1000 : Int32)) (0 : Int32)) (fun r2 s3 => some (r2, s3)) else if (x1 / (1000 : Int32)) = (104 : Int32) then zb (fX11_takeOn n s ((x1 - x1 / (1000 : Int32) * (1000 : Int32)) / (10 : Int32)) ((x1 - x1 / (1000 : Int32) * (1000 : Int32)) - (x1 - x1 / (1000 : Int32) * (1000 : Int32)) / (10 : Int32) * (10 : Int32))) (fun r6 s7 => some (r6, s7)) else if (x1 / (1000 : Int32)) = (108 : Int32) then zb (fX11_letGo n s (x1 - x1 / (1000 : Int32) * (1000 : Int32))) (fun r10 s11 => some (r10, s11)) else if (x1 / (1000 : Int32)) = (117 : Int32) then zb (fX9_go n s 17 (x1 - x1 / (1000 : Int32) * (1000 : Int32)) (1 : Int32)) (fun r14 s15 => some (r14, s15)) else zb (fX11_takeRest n s (x1 - x1 / (1000 : Int32) * (1000 : Int32))) (fun r17 s18 => some (r17, s18))
theorem tX11_perform {n : Nat} {c : Nat × Nat} {s : zs} {x1 : Int32} {r : Int32} {s' : zs} (h : fX11_perform n s x1 = some (r, s')) : zc 9 2227 [.ref 0, .int x1] (zS c s) (some (.int r)) (zS c s') := by
  refine zc_of (k := kX11_perform) (rt := 1) (L := [some (.ref 0), some (.int x1), none]) zm_2227.1 rfl rfl (by decide) rfl rfl ?_
  unfold fX11_perform at h
  refine zr_many 2 (pc' := 4) (L' := [some (.ref 0), some (.int x1), none]) (st' := [.int (1000 : Int32), .int x1]) (S1 := zS c s) rfl ?_
  refine zq_irem rfl (by decide) rfl ?_
  refine zr_many 3 (pc' := 10) (L' := [some (.ref 0), some (.int x1), some (.int (x1 - x1 / (1000 : Int32) * (1000 : Int32)))]) (st' := [.int (1000 : Int32), .int x1]) (S1 := zS c s) rfl ?_
  refine zq_idiv rfl (by decide) rfl ?_
  refine zq_sw (Or.inr ⟨_, _, rfl⟩) ?_
  by_cases g1 : (x1 / (1000 : Int32)) = (100 : Int32)
  · rw [if_pos g1] at h
    rw [zi_sw_pos g1]
    refine zr_many 1 (pc' := 86) (L' := [some (.ref 0), some (.int x1), some (.int (x1 - x1 / (1000 : Int32) * (1000 : Int32)))]) (st' := [.ref 0]) (S1 := zS c s) rfl ?_
    refine zq_get rfl (zh_0 _) rfl rfl rfl ?_
    refine zr_many 1 (pc' := 90) (L' := [some (.ref 0), some (.int x1), some (.int (x1 - x1 / (1000 : Int32) * (1000 : Int32)))]) (st' := [.ref 0, .ref 38]) (S1 := zS c s) rfl ?_
    refine zq_get rfl (zh_0 _) rfl rfl rfl ?_
    refine zr_many 2 (pc' := 95) (L' := [some (.ref 0), some (.int x1), some (.int (x1 - x1 / (1000 : Int32) * (1000 : Int32)))]) (st' := [.int (0 : Int32), .int (x1 - x1 / (1000 : Int32) * (1000 : Int32)), .ref 17, .ref 38]) (S1 := zS c s) rfl ?_
    obtain ⟨r2, s3, g4, h⟩ := zb_inv h
    refine zq_call1 rfl rfl (zh_38 _) rfl rfl rfl (tX9_go zM_17 g4) rfl ?_
    obtain ⟨rfl, rfl⟩ := Prod.mk.inj (Option.some.inj h)
    exact zq_iret rfl
  rw [if_neg g1] at h
  rw [zi_sw_neg g1]
  by_cases g5 : (x1 / (1000 : Int32)) = (104 : Int32)
  · rw [if_pos g5] at h
    rw [zi_sw_pos g5]
    refine zr_many 3 (pc' := 56) (L' := [some (.ref 0), some (.int x1), some (.int (x1 - x1 / (1000 : Int32) * (1000 : Int32)))]) (st' := [.int (10 : Int32), .int (x1 - x1 / (1000 : Int32) * (1000 : Int32)), .ref 0]) (S1 := zS c s) rfl ?_
    refine zq_idiv rfl (by decide) rfl ?_
    refine zr_many 2 (pc' := 60) (L' := [some (.ref 0), some (.int x1), some (.int (x1 - x1 / (1000 : Int32) * (1000 : Int32)))]) (st' := [.int (10 : Int32), .int (x1 - x1 / (1000 : Int32) * (1000 : Int32)), .int ((x1 - x1 / (1000 : Int32) * (1000 : Int32)) / (10 : Int32)), .ref 0]) (S1 := zS c s) rfl ?_
    refine zq_irem rfl (by decide) rfl ?_
    obtain ⟨r6, s7, g8, h⟩ := zb_inv h
    refine zq_call1 rfl rfl (zh_0 _) rfl rfl rfl ((tX11_takeOn g8).up (by decide)) rfl ?_
    obtain ⟨rfl, rfl⟩ := Prod.mk.inj (Option.some.inj h)
    exact zq_iret rfl
  rw [if_neg g5] at h
  rw [zi_sw_neg g5]
  by_cases g9 : (x1 / (1000 : Int32)) = (108 : Int32)
  · rw [if_pos g9] at h
    rw [zi_sw_pos g9]
    refine zr_many 2 (pc' := 67) (L' := [some (.ref 0), some (.int x1), some (.int (x1 - x1 / (1000 : Int32) * (1000 : Int32)))]) (st' := [.int (x1 - x1 / (1000 : Int32) * (1000 : Int32)), .ref 0]) (S1 := zS c s) rfl ?_
    obtain ⟨r10, s11, g12, h⟩ := zb_inv h
    refine zq_call1 rfl rfl (zh_0 _) rfl rfl rfl ((tX11_letGo g12).up (by decide)) rfl ?_
    obtain ⟨rfl, rfl⟩ := Prod.mk.inj (Option.some.inj h)
    exact zq_iret rfl
  rw [if_neg g9] at h
  rw [zi_sw_neg g9]
  by_cases g13 : (x1 / (1000 : Int32)) = (117 : Int32)
  · rw [if_pos g13] at h
    rw [zi_sw_pos g13]
    refine zr_many 1 (pc' := 72) (L' := [some (.ref 0), some (.int x1), some (.int (x1 - x1 / (1000 : Int32) * (1000 : Int32)))]) (st' := [.ref 0]) (S1 := zS c s) rfl ?_
    refine zq_get rfl (zh_0 _) rfl rfl rfl ?_
    refine zr_many 1 (pc' := 76) (L' := [some (.ref 0), some (.int x1), some (.int (x1 - x1 / (1000 : Int32) * (1000 : Int32)))]) (st' := [.ref 0, .ref 38]) (S1 := zS c s) rfl ?_
    refine zq_get rfl (zh_0 _) rfl rfl rfl ?_
    refine zr_many 2 (pc' := 81) (L' := [some (.ref 0), some (.int x1), some (.int (x1 - x1 / (1000 : Int32) * (1000 : Int32)))]) (st' := [.int (1 : Int32), .int (x1 - x1 / (1000 : Int32) * (1000 : Int32)), .ref 17, .ref 38]) (S1 := zS c s) rfl ?_
    obtain ⟨r14, s15, g16, h⟩ := zb_inv h
    refine zq_call1 rfl rfl (zh_38 _) rfl rfl rfl (tX9_go zM_17 g16) rfl ?_
    obtain ⟨rfl, rfl⟩ := Prod.mk.inj (Option.some.inj h)
    exact zq_iret rfl
  rw [if_neg g13] at h
  rw [zi_sw_neg g13]
  simp only [zi_sw]
  refine zr_many 2 (pc' := 101) (L' := [some (.ref 0), some (.int x1), some (.int (x1 - x1 / (1000 : Int32) * (1000 : Int32)))]) (st' := [.int (x1 - x1 / (1000 : Int32) * (1000 : Int32)), .ref 0]) (S1 := zS c s) rfl ?_
  obtain ⟨r17, s18, g19, h⟩ := zb_inv h
  refine zq_call1 rfl rfl (zh_0 _) rfl rfl rfl ((tX11_takeRest g19).up (by decide)) rfl ?_
  obtain ⟨rfl, rfl⟩ := Prod.mk.inj (Option.some.inj h)
  exact zq_iret rfl
def fX11_day_J123 (n : Nat) (s : zs) (x1 : Int32) (x2 : Int32) (x3 : Int32) (x4 : Int32) (x5 : Int32) : Option ((Int32 × Int32 × Int32 × Int32 × zs) ⊕ (Int32 × Int32 × Int32 × zs)) := some (Sum.inl (x2, x3, x4, (x5 + (1 : Int32)), s))
theorem tX11_day_J123 {n : Nat} {c : Nat × Nat} {s : zs} {x1 : Int32} {x2 : Int32} {x3 : Int32} {x4 : Int32} {x5 : Int32} {o : _} {v : Option Value} {S' : zi_S} (h : fX11_day_J123 n s x1 x2 x3 x4 x5 = some o) (hn : ∀ w62, o = Sum.inl w62 → zr kX11_day 1 9 62 [some (.ref 0), some (.int x1), some (.int w62.1), some (.int w62.2.1), some (.int w62.2.2.1), some (.int w62.2.2.2.1)] [] (zS c w62.2.2.2.2) v S') (hx : ∀ z, o = Sum.inr z → (fun z => zr kX11_day 1 9 129 [some (.ref 0), none, some (.int z.1), some (.int z.2.1), some (.int z.2.2.1), none] [] (zS c z.2.2.2) v S') z) : zr kX11_day 1 9 123 [some (.ref 0), some (.int x1), some (.int x2), some (.int x3), some (.int x4), some (.int x5)] [] (zS c s) v S' := by
  unfold fX11_day_J123 at h
  refine zr_many 2 (pc' := 62) (L' := [some (.ref 0), some (.int x1), some (.int x2), some (.int x3), some (.int x4), some (.int (x5 + (1 : Int32)))]) (st' := []) (S1 := zS c s) rfl ?_
  obtain rfl := Option.some.inj h
  exact zr_wk [some (.ref 0), some (.int x1), some (.int x2), some (.int x3), some (.int x4), some (.int (x5 + (1 : Int32)))] ⟨rfl, rfl, rfl, rfl, rfl, rfl, trivial⟩ (hn (x2, x3, x4, (x5 + (1 : Int32)), s) rfl)
def fX11_day_J121 (n : Nat) (s : zs) (x1 : Int32) (x2 : Int32) (x4 : Int32) (x5 : Int32) (y0 : Int32) (y1 : Int32) : Option ((Int32 × Int32 × Int32 × Int32 × zs) ⊕ (Int32 × Int32 × Int32 × zs)) := fX11_day_J123 n s x1 x2 (y0 + y1) x4 x5
theorem tX11_day_J121 {n : Nat} {c : Nat × Nat} {s : zs} {x1 : Int32} {x2 : Int32} {x4 : Int32} {x5 : Int32} {y0 : Int32} {y1 : Int32} {o : _} {v : Option Value} {S' : zi_S} (h : fX11_day_J121 n s x1 x2 x4 x5 y0 y1 = some o) (hn : ∀ w62, o = Sum.inl w62 → zr kX11_day 1 9 62 [some (.ref 0), some (.int x1), some (.int w62.1), some (.int w62.2.1), some (.int w62.2.2.1), some (.int w62.2.2.2.1)] [] (zS c w62.2.2.2.2) v S') (hx : ∀ z, o = Sum.inr z → (fun z => zr kX11_day 1 9 129 [some (.ref 0), none, some (.int z.1), some (.int z.2.1), some (.int z.2.2.1), none] [] (zS c z.2.2.2) v S') z) : zr kX11_day 1 9 121 [some (.ref 0), some (.int x1), some (.int x2), none, some (.int x4), some (.int x5)] [.int y1, .int y0] (zS c s) v S' := by
  unfold fX11_day_J121 at h
  refine zr_many 2 (pc' := 123) (L' := [some (.ref 0), some (.int x1), some (.int x2), some (.int (y0 + y1)), some (.int x4), some (.int x5)]) (st' := []) (S1 := zS c s) rfl ?_
  exact zr_wk [some (.ref 0), some (.int x1), some (.int x2), some (.int (y0 + y1)), some (.int x4), some (.int x5)] ⟨rfl, rfl, rfl, rfl, rfl, rfl, trivial⟩ (tX11_day_J123 h hn hx)
def fX11_day_J92 (n : Nat) (s : zs) (x1 : Int32) (x2 : Int32) (x3 : Int32) (x5 : Int32) (y0 : Int32) : Option ((Int32 × Int32 × Int32 × Int32 × zs) ⊕ (Int32 × Int32 × Int32 × zs)) := if ¬ y0 = 0 then fX11_day_J123 n s x1 x2 x3 y0 x5 else cond (zi_in x5 60) (zp (fX11_isPass n s (s.1 142 x5.toNatClampNeg)) (fun r27 => if r27 = 0 then fX11_day_J121 n s x1 (x2 + (1 : Int32)) y0 x5 x3 (0 : Int32) else fX11_day_J121 n s x1 (x2 + (1 : Int32)) y0 x5 x3 (1 : Int32))) none
theorem tX11_day_J92 {n : Nat} {c : Nat × Nat} {s : zs} {x1 : Int32} {x2 : Int32} {x3 : Int32} {x5 : Int32} {y0 : Int32} {o : _} {v : Option Value} {S' : zi_S} (h : fX11_day_J92 n s x1 x2 x3 x5 y0 = some o) (hn : ∀ w62, o = Sum.inl w62 → zr kX11_day 1 9 62 [some (.ref 0), some (.int x1), some (.int w62.1), some (.int w62.2.1), some (.int w62.2.2.1), some (.int w62.2.2.2.1)] [] (zS c w62.2.2.2.2) v S') (hx : ∀ z, o = Sum.inr z → (fun z => zr kX11_day 1 9 129 [some (.ref 0), none, some (.int z.1), some (.int z.2.1), some (.int z.2.2.1), none] [] (zS c z.2.2.2) v S') z) : zr kX11_day 1 9 92 [some (.ref 0), some (.int x1), some (.int x2), some (.int x3), none, some (.int x5)] [.int y0] (zS c s) v S' := by
  unfold fX11_day_J92 at h
  refine zr_many 2 (pc' := 96) (L' := [some (.ref 0), some (.int x1), some (.int x2), some (.int x3), some (.int y0), some (.int x5)]) (st' := [.int y0]) (S1 := zS c s) rfl ?_
  refine zq_if1 (b := ¬ y0 = 0) rfl Iff.rfl rfl (fun g25 => ?_) (fun g25 => ?_)
  · rw [if_pos g25] at h
    exact zr_wk [some (.ref 0), some (.int x1), some (.int x2), some (.int x3), some (.int y0), some (.int x5)] ⟨rfl, rfl, rfl, rfl, rfl, rfl, trivial⟩ (tX11_day_J123 h hn hx)
  · rw [if_neg g25] at h
    refine zr_many 3 (pc' := 104) (L' := [some (.ref 0), some (.int x1), some (.int (x2 + (1 : Int32))), some (.int x3), some (.int y0), some (.int x5)]) (st' := [.ref 0, .int x3]) (S1 := zS c s) rfl ?_
    refine zq_get rfl (zh_0 _) rfl rfl rfl ?_
    refine zr_many 1 (pc' := 109) (L' := [some (.ref 0), some (.int x1), some (.int (x2 + (1 : Int32))), some (.int x3), some (.int y0), some (.int x5)]) (st' := [.int x5, .ref 142, .int x3]) (S1 := zS c s) rfl ?_
    obtain ⟨g26, h⟩ := zi_cond_inv h
    refine zq_ild rfl (zh_142 _) rfl g26 rfl ?_
    obtain ⟨r27, g29, h⟩ := zp_inv h
    refine zq_scall1 rfl (by decide) rfl rfl ((tX11_isPass g29).up (by decide)) rfl ?_
    refine zq_if1 (b := r27 = 0) rfl Iff.rfl rfl (fun g30 => ?_) (fun g30 => ?_)
    · rw [if_pos g30] at h
      refine zr_many 1 (pc' := 121) (L' := [some (.ref 0), some (.int x1), some (.int (x2 + (1 : Int32))), some (.int x3), some (.int y0), some (.int x5)]) (st' := [.int (0 : Int32), .int x3]) (S1 := zS c s) rfl ?_
      exact zr_wk [some (.ref 0), some (.int x1), some (.int (x2 + (1 : Int32))), none, some (.int y0), some (.int x5)] ⟨rfl, rfl, rfl, rfl, rfl, trivial⟩ (tX11_day_J121 h hn hx)
    · rw [if_neg g30] at h
      refine zr_many 2 (pc' := 121) (L' := [some (.ref 0), some (.int x1), some (.int (x2 + (1 : Int32))), some (.int x3), some (.int y0), some (.int x5)]) (st' := [.int (1 : Int32), .int x3]) (S1 := zS c s) rfl ?_
      exact zr_wk [some (.ref 0), some (.int x1), some (.int (x2 + (1 : Int32))), none, some (.int y0), some (.int x5)] ⟨rfl, rfl, rfl, rfl, rfl, trivial⟩ (tX11_day_J121 h hn hx)
def fX11_day_B62 (n : Nat) (x1 : Int32) (w62 : Int32 × Int32 × Int32 × Int32 × zs) : Option ((Int32 × Int32 × Int32 × Int32 × zs) ⊕ (Int32 × Int32 × Int32 × zs)) := if x1 ≤ w62.2.2.2.1 then some (Sum.inr (w62.1, w62.2.1, w62.2.2.1, w62.2.2.2.2)) else if ¬ w62.2.2.1 = 0 then some (Sum.inr (w62.1, w62.2.1, w62.2.2.1, w62.2.2.2.2)) else cond (zi_in w62.2.2.2.1 60) (zb (fX11_perform n w62.2.2.2.2 (w62.2.2.2.2.1 142 w62.2.2.2.1.toNatClampNeg)) (fun r21 s22 => if 0 ≤ r21 then fX11_day_J92 n s22 x1 w62.1 w62.2.1 w62.2.2.2.1 (0 : Int32) else fX11_day_J92 n s22 x1 w62.1 w62.2.1 w62.2.2.2.1 (1 : Int32))) none
theorem tX11_day_B62 {n : Nat} {c : Nat × Nat} {x1 : Int32} {w62 : Int32 × Int32 × Int32 × Int32 × zs} {o : _} {v : Option Value} {S' : zi_S} (h : fX11_day_B62 n x1 w62 = some o) (hn : ∀ w62, o = Sum.inl w62 → zr kX11_day 1 9 62 [some (.ref 0), some (.int x1), some (.int w62.1), some (.int w62.2.1), some (.int w62.2.2.1), some (.int w62.2.2.2.1)] [] (zS c w62.2.2.2.2) v S') (hx : ∀ z, o = Sum.inr z → (fun z => zr kX11_day 1 9 129 [some (.ref 0), none, some (.int z.1), some (.int z.2.1), some (.int z.2.2.1), none] [] (zS c z.2.2.2) v S') z) : zr kX11_day 1 9 62 [some (.ref 0), some (.int x1), some (.int w62.1), some (.int w62.2.1), some (.int w62.2.2.1), some (.int w62.2.2.2.1)] [] (zS c w62.2.2.2.2) v S' := by
  unfold fX11_day_B62 at h
  refine zr_many 2 (pc' := 65) (L' := [some (.ref 0), some (.int x1), some (.int w62.1), some (.int w62.2.1), some (.int w62.2.2.1), some (.int w62.2.2.2.1)]) (st' := [.int x1, .int w62.2.2.2.1]) (S1 := zS c w62.2.2.2.2) rfl ?_
  refine zq_if2 (b := x1 ≤ w62.2.2.2.1) rfl Iff.rfl rfl (fun g18 => ?_) (fun g18 => ?_)
  · rw [if_pos g18] at h
    obtain rfl := Option.some.inj h
    exact zr_wk [some (.ref 0), none, some (.int w62.1), some (.int w62.2.1), some (.int w62.2.2.1), none] ⟨rfl, rfl, rfl, rfl, trivial⟩ (hx (w62.1, w62.2.1, w62.2.2.1, w62.2.2.2.2) rfl)
  · rw [if_neg g18] at h
    refine zr_many 1 (pc' := 70) (L' := [some (.ref 0), some (.int x1), some (.int w62.1), some (.int w62.2.1), some (.int w62.2.2.1), some (.int w62.2.2.2.1)]) (st' := [.int w62.2.2.1]) (S1 := zS c w62.2.2.2.2) rfl ?_
    refine zq_if1 (b := ¬ w62.2.2.1 = 0) rfl Iff.rfl rfl (fun g19 => ?_) (fun g19 => ?_)
    · rw [if_pos g19] at h
      obtain rfl := Option.some.inj h
      exact zr_wk [some (.ref 0), none, some (.int w62.1), some (.int w62.2.1), some (.int w62.2.2.1), none] ⟨rfl, rfl, rfl, rfl, trivial⟩ (hx (w62.1, w62.2.1, w62.2.2.1, w62.2.2.2.2) rfl)
    · rw [if_neg g19] at h
      refine zr_many 2 (pc' := 75) (L' := [some (.ref 0), some (.int x1), some (.int w62.1), some (.int w62.2.1), some (.int w62.2.2.1), some (.int w62.2.2.2.1)]) (st' := [.ref 0, .ref 0]) (S1 := zS c w62.2.2.2.2) rfl ?_
      refine zq_get rfl (zh_0 _) rfl rfl rfl ?_
      refine zr_many 1 (pc' := 80) (L' := [some (.ref 0), some (.int x1), some (.int w62.1), some (.int w62.2.1), some (.int w62.2.2.1), some (.int w62.2.2.2.1)]) (st' := [.int w62.2.2.2.1, .ref 142, .ref 0]) (S1 := zS c w62.2.2.2.2) rfl ?_
      obtain ⟨g20, h⟩ := zi_cond_inv h
      refine zq_ild rfl (zh_142 _) rfl g20 rfl ?_
      obtain ⟨r21, s22, g23, h⟩ := zb_inv h
      refine zq_call1 rfl rfl (zh_0 _) rfl rfl rfl (tX11_perform g23) rfl ?_
      refine zq_if1 (b := 0 ≤ r21) rfl Iff.rfl rfl (fun g24 => ?_) (fun g24 => ?_)
      · rw [if_pos g24] at h
        refine zr_many 1 (pc' := 92) (L' := [some (.ref 0), some (.int x1), some (.int w62.1), some (.int w62.2.1), some (.int w62.2.2.1), some (.int w62.2.2.2.1)]) (st' := [.int (0 : Int32)]) (S1 := zS c s22) rfl ?_
        exact zr_wk [some (.ref 0), some (.int x1), some (.int w62.1), some (.int w62.2.1), none, some (.int w62.2.2.2.1)] ⟨rfl, rfl, rfl, rfl, rfl, trivial⟩ (tX11_day_J92 h hn hx)
      · rw [if_neg g24] at h
        refine zr_many 2 (pc' := 92) (L' := [some (.ref 0), some (.int x1), some (.int w62.1), some (.int w62.2.1), some (.int w62.2.2.1), some (.int w62.2.2.2.1)]) (st' := [.int (1 : Int32)]) (S1 := zS c s22) rfl ?_
        exact zr_wk [some (.ref 0), some (.int x1), some (.int w62.1), some (.int w62.2.1), none, some (.int w62.2.2.2.1)] ⟨rfl, rfl, rfl, rfl, rfl, trivial⟩ (tX11_day_J92 h hn hx)
def fX11_day_J165 (n : Nat) (s : zs) (x2 : Int32) (x3 : Int32) (y1 : Int64) : Option (Int32 × zs) := zp (fX5_add n s y1) (fun s38 => zp (fX5_add n s38 x3.toInt64) (fun s41 => some (x2, s41)))
theorem tX11_day_J165 {n : Nat} {c : Nat × Nat} {s : zs} {x2 : Int32} {x3 : Int32} {y1 : Int64} {r : Int32} {s' : zs} (h : fX11_day_J165 n s x2 x3 y1 = some (r, s')) : zr kX11_day 1 9 165 [some (.ref 0), none, some (.int x2), some (.int x3), none, none] [.long y1, .ref 3] (zS c s) (some (.int r)) (zS c s') := by
  unfold fX11_day_J165 at h
  obtain ⟨s38, g39, h⟩ := zp_inv h
  refine zq_call0 rfl rfl (zh_3 _) rfl rfl rfl ((tX5_add g39).up (by decide)) rfl ?_
  refine zr_many 1 (pc' := 169) (L' := [some (.ref 0), none, some (.int x2), some (.int x3), none, none]) (st' := [.ref 0]) (S1 := zS c s38) rfl ?_
  refine zq_get rfl (zh_0 _) rfl rfl rfl ?_
  refine zr_many 2 (pc' := 174) (L' := [some (.ref 0), none, some (.int x2), some (.int x3), none, none]) (st' := [.long x3.toInt64, .ref 3]) (S1 := zS c s38) rfl ?_
  obtain ⟨s41, g42, h⟩ := zp_inv h
  refine zq_call0 rfl rfl (zh_3 _) rfl rfl rfl ((tX5_add g42).up (by decide)) rfl ?_
  refine zr_many 1 (pc' := 178) (L' := [some (.ref 0), none, some (.int x2), some (.int x3), none, none]) (st' := [.int x2]) (S1 := zS c s41) rfl ?_
  obtain ⟨rfl, rfl⟩ := Prod.mk.inj (Option.some.inj h)
  exact zq_iret rfl
def fX11_day_J144 (n : Nat) (s : zs) (x2 : Int32) (x3 : Int32) (x4 : Int32) : Option (Int32 × zs) := zp (fX5_clear n s) (fun s34 => if x4 = 0 then fX11_day_J165 n s34 x2 x3 (0 : Int64) else fX11_day_J165 n s34 x2 x3 (1 : Int64))
theorem tX11_day_J144 {n : Nat} {c : Nat × Nat} {s : zs} {x2 : Int32} {x3 : Int32} {x4 : Int32} {r : Int32} {s' : zs} (h : fX11_day_J144 n s x2 x3 x4 = some (r, s')) : zr kX11_day 1 9 144 [some (.ref 0), none, some (.int x2), some (.int x3), some (.int x4), none] [] (zS c s) (some (.int r)) (zS c s') := by
  unfold fX11_day_J144 at h
  refine zr_many 1 (pc' := 145) (L' := [some (.ref 0), none, some (.int x2), some (.int x3), some (.int x4), none]) (st' := [.ref 0]) (S1 := zS c s) rfl ?_
  refine zq_get rfl (zh_0 _) rfl rfl rfl ?_
  obtain ⟨s34, g35, h⟩ := zp_inv h
  refine zq_call0 rfl rfl (zh_3 _) rfl rfl rfl ((tX5_clear g35).up (by decide)) rfl ?_
  refine zr_many 1 (pc' := 152) (L' := [some (.ref 0), none, some (.int x2), some (.int x3), some (.int x4), none]) (st' := [.ref 0]) (S1 := zS c s34) rfl ?_
  refine zq_get rfl (zh_0 _) rfl rfl rfl ?_
  refine zr_many 1 (pc' := 157) (L' := [some (.ref 0), none, some (.int x2), some (.int x3), some (.int x4), none]) (st' := [.int x4, .ref 3]) (S1 := zS c s34) rfl ?_
  refine zq_if1 (b := x4 = 0) rfl Iff.rfl rfl (fun g36 => ?_) (fun g36 => ?_)
  · rw [if_pos g36] at h
    refine zr_many 1 (pc' := 165) (L' := [some (.ref 0), none, some (.int x2), some (.int x3), some (.int x4), none]) (st' := [.long (0 : Int64), .ref 3]) (S1 := zS c s34) rfl ?_
    exact zr_wk [some (.ref 0), none, some (.int x2), some (.int x3), none, none] ⟨rfl, rfl, rfl, trivial⟩ (tX11_day_J165 h)
  · rw [if_neg g36] at h
    refine zr_many 2 (pc' := 165) (L' := [some (.ref 0), none, some (.int x2), some (.int x3), some (.int x4), none]) (st' := [.long (1 : Int64), .ref 3]) (S1 := zS c s34) rfl ?_
    exact zr_wk [some (.ref 0), none, some (.int x2), some (.int x3), none, none] ⟨rfl, rfl, rfl, trivial⟩ (tX11_day_J165 h)
def fX11_day_J129 (n : Nat) (s : zs) (x2 : Int32) (x3 : Int32) (x4 : Int32) : Option (Int32 × zs) := if x2 ≤ 0 then fX11_day_J144 n s x2 x3 x4 else zp (fX6_add n s 23) (fun s44 => fX11_day_J144 n s44 x2 x3 x4)
theorem tX11_day_J129 {n : Nat} {c : Nat × Nat} {s : zs} {x2 : Int32} {x3 : Int32} {x4 : Int32} {r : Int32} {s' : zs} (h : fX11_day_J129 n s x2 x3 x4 = some (r, s')) : zr kX11_day 1 9 129 [some (.ref 0), none, some (.int x2), some (.int x3), some (.int x4), none] [] (zS c s) (some (.int r)) (zS c s') := by
  unfold fX11_day_J129 at h
  refine zr_many 1 (pc' := 130) (L' := [some (.ref 0), none, some (.int x2), some (.int x3), some (.int x4), none]) (st' := [.int x2]) (S1 := zS c s) rfl ?_
  refine zq_if1 (b := x2 ≤ 0) rfl Iff.rfl rfl (fun g32 => ?_) (fun g32 => ?_)
  · rw [if_pos g32] at h
    exact zr_wk [some (.ref 0), none, some (.int x2), some (.int x3), some (.int x4), none] ⟨rfl, rfl, rfl, rfl, trivial⟩ (tX11_day_J144 h)
  · rw [if_neg g32] at h
    refine zr_many 1 (pc' := 134) (L' := [some (.ref 0), none, some (.int x2), some (.int x3), some (.int x4), none]) (st' := [.ref 0]) (S1 := zS c s) rfl ?_
    refine zq_get rfl (zh_0 _) rfl rfl rfl ?_
    refine zr_many 1 (pc' := 138) (L' := [some (.ref 0), none, some (.int x2), some (.int x3), some (.int x4), none]) (st' := [.ref 0, .ref 49]) (S1 := zS c s) rfl ?_
    refine zq_get rfl (zh_0 _) rfl rfl rfl ?_
    obtain ⟨s44, g45, h⟩ := zp_inv h
    refine zq_call0 rfl rfl (zh_49 _) rfl rfl rfl ((tX6_add zM_23 g45).up (by decide)) rfl ?_
    exact zr_wk [some (.ref 0), none, some (.int x2), some (.int x3), some (.int x4), none] ⟨rfl, rfl, rfl, rfl, trivial⟩ (tX11_day_J144 h)
def fX11_day_J27 (n : Nat) (s : zs) (y0 : Int32) : Option (Int32 × zs) := zp (fX8_clear n s) (fun s12 => if 0 ≤ y0 then zp (fX3_copy n s12 23 17) (fun s16 => zp (zl (fX11_day_B62 n y0) n ((0 : Int32), (0 : Int32), (0 : Int32), (0 : Int32), s16)) (fun w31 => fX11_day_J129 n w31.2.2.2 w31.1 w31.2.1 w31.2.2.1)) else some (y0, s12))
theorem tX11_day_J27 {n : Nat} {c : Nat × Nat} {s : zs} {y0 : Int32} {r : Int32} {s' : zs} (h : fX11_day_J27 n s y0 = some (r, s')) : zr kX11_day 1 9 27 [some (.ref 0), none, none, none, none, none] [.int y0] (zS c s) (some (.int r)) (zS c s') := by
  unfold fX11_day_J27 at h
  refine zr_many 2 (pc' := 29) (L' := [some (.ref 0), some (.int y0), none, none, none, none]) (st' := [.ref 0]) (S1 := zS c s) rfl ?_
  refine zq_get rfl (zh_0 _) rfl rfl rfl ?_
  obtain ⟨s12, g13, h⟩ := zp_inv h
  refine zq_call0 rfl rfl (zh_1 _) rfl rfl rfl ((tX8_clear g13).up (by decide)) rfl ?_
  refine zr_many 1 (pc' := 36) (L' := [some (.ref 0), some (.int y0), none, none, none, none]) (st' := [.int y0]) (S1 := zS c s12) rfl ?_
  refine zq_if1 (b := 0 ≤ y0) rfl Iff.rfl rfl (fun g14 => ?_) (fun g14 => ?_)
  · rw [if_pos g14] at h
    refine zr_many 1 (pc' := 42) (L' := [some (.ref 0), some (.int y0), none, none, none, none]) (st' := [.ref 0]) (S1 := zS c s12) rfl ?_
    refine zq_get rfl (zh_0 _) rfl rfl rfl ?_
    refine zr_many 1 (pc' := 46) (L' := [some (.ref 0), some (.int y0), none, none, none, none]) (st' := [.ref 0, .ref 23]) (S1 := zS c s12) rfl ?_
    refine zq_get rfl (zh_0 _) rfl rfl rfl ?_
    obtain ⟨s16, g17, h⟩ := zp_inv h
    refine zq_call0 rfl rfl (zh_23 _) rfl rfl rfl ((tX3_copy zM_23 zM_17 g17).up (by decide)) rfl ?_
    refine zr_many 8 (pc' := 62) (L' := [some (.ref 0), some (.int y0), some (.int (0 : Int32)), some (.int (0 : Int32)), some (.int (0 : Int32)), some (.int (0 : Int32))]) (st' := []) (S1 := zS c s16) rfl ?_
    obtain ⟨w31, g46, h⟩ := zp_inv h
    refine zr_wk [some (.ref 0), some (.int y0), some (.int (0 : Int32)), some (.int (0 : Int32)), some (.int (0 : Int32)), some (.int (0 : Int32))] ⟨rfl, rfl, rfl, rfl, rfl, rfl, trivial⟩ (zl_cert (Z := fun w62 => zr kX11_day 1 9 62 [some (.ref 0), some (.int y0), some (.int w62.1), some (.int w62.2.1), some (.int w62.2.2.1), some (.int w62.2.2.2.1)] [] (zS c w62.2.2.2.2) _ _) (Y := (fun z => zr kX11_day 1 9 129 [some (.ref 0), none, some (.int z.1), some (.int z.2.1), some (.int z.2.2.1), none] [] (zS c z.2.2.2) _ _)) (fun w o h1 h2 h3 => tX11_day_B62 h1 h2 h3) n _ _ g46 ?_)
    show zr kX11_day 1 9 129 [some (.ref 0), none, some (.int w31.1), some (.int w31.2.1), some (.int w31.2.2.1), none] [] (zS c w31.2.2.2) _ _
    exact zr_wk [some (.ref 0), none, some (.int w31.1), some (.int w31.2.1), some (.int w31.2.2.1), none] ⟨rfl, rfl, rfl, rfl, trivial⟩ (tX11_day_J129 h)
  · rw [if_neg g14] at h
    refine zr_many 1 (pc' := 40) (L' := [some (.ref 0), some (.int y0), none, none, none, none]) (st' := [.int y0]) (S1 := zS c s12) rfl ?_
    obtain ⟨rfl, rfl⟩ := Prod.mk.inj (Option.some.inj h)
    exact zq_iret rfl
def fX11_day (n : Nat) (s : zs) : Option (Int32 × zs) := zp (fX8_open n s (60 : Int32)) (fun s2 => zp (fX8_over n s2) (fun r4 => if r4 = 0 then zb (fX11_readActs n s2) (fun r8 s9 => fX11_day_J27 n s9 r8) else fX11_day_J27 n s2 (0 : Int32)))
theorem tX11_day {n : Nat} {c : Nat × Nat} {s : zs} {r : Int32} {s' : zs} (h : fX11_day n s = some (r, s')) : zc 10 2218 [.ref 0] (zS c s) (some (.int r)) (zS c s') := by
  refine zc_of (k := kX11_day) (rt := 1) (L := [some (.ref 0), none, none, none, none, none]) zm_2218.1 rfl rfl (by decide) rfl rfl ?_
  unfold fX11_day at h
  refine zr_many 1 (pc' := 1) (L' := [some (.ref 0), none, none, none, none, none]) (st' := [.ref 0]) (S1 := zS c s) rfl ?_
  refine zq_get rfl (zh_0 _) rfl rfl rfl ?_
  refine zr_many 1 (pc' := 6) (L' := [some (.ref 0), none, none, none, none, none]) (st' := [.int (60 : Int32), .ref 1]) (S1 := zS c s) rfl ?_
  obtain ⟨s2, g3, h⟩ := zp_inv h
  refine zq_call0 rfl rfl (zh_1 _) rfl rfl rfl ((tX8_open g3).up (by decide)) rfl ?_
  refine zr_many 1 (pc' := 10) (L' := [some (.ref 0), none, none, none, none, none]) (st' := [.ref 0]) (S1 := zS c s2) rfl ?_
  refine zq_get rfl (zh_0 _) rfl rfl rfl ?_
  obtain ⟨r4, g6, h⟩ := zp_inv h
  refine zq_call1 rfl rfl (zh_1 _) rfl rfl rfl ((tX8_over g6).up (by decide)) rfl ?_
  refine zq_if1 (b := r4 = 0) rfl Iff.rfl rfl (fun g7 => ?_) (fun g7 => ?_)
  · rw [if_pos g7] at h
    refine zr_many 1 (pc' := 24) (L' := [some (.ref 0), none, none, none, none, none]) (st' := [.ref 0]) (S1 := zS c s2) rfl ?_
    obtain ⟨r8, s9, g10, h⟩ := zb_inv h
    refine zq_call1 rfl rfl (zh_0 _) rfl rfl rfl ((tX11_readActs g10).up (by decide)) rfl ?_
    exact zr_wk [some (.ref 0), none, none, none, none, none] ⟨rfl, trivial⟩ (tX11_day_J27 h)
  · rw [if_neg g7] at h
    refine zr_many 2 (pc' := 27) (L' := [some (.ref 0), none, none, none, none, none]) (st' := [.int (0 : Int32)]) (S1 := zS c s2) rfl ?_
    exact zr_wk [some (.ref 0), none, none, none, none, none] ⟨rfl, trivial⟩ (tX11_day_J27 h)
def fX11_undo_J25 (n : Nat) (s : zs) (y0 : Int32) : Option (Int32 × zs) := some (y0, s)
theorem tX11_undo_J25 {n : Nat} {c : Nat × Nat} {s : zs} {y0 : Int32} {r : Int32} {s' : zs} (h : fX11_undo_J25 n s y0 = some (r, s')) : zr kX11_undo 1 2 25 [none] [.int y0] (zS c s) (some (.int r)) (zS c s') := by
  unfold fX11_undo_J25 at h
  obtain ⟨rfl, rfl⟩ := Prod.mk.inj (Option.some.inj h)
  exact zq_iret rfl
def fX11_undo (n : Nat) (s : zs) : Option (Int32 × zs) := zb (fX6_takeBack n s 17) (fun r1 s2 => if r1 = 0 then fX11_undo_J25 n s2 (-1 : Int32) else zp (fX6_size n s2) (fun r5 => fX11_undo_J25 n s2 r5))
theorem tX11_undo {n : Nat} {c : Nat × Nat} {s : zs} {r : Int32} {s' : zs} (h : fX11_undo n s = some (r, s')) : zc 3 2219 [.ref 0] (zS c s) (some (.int r)) (zS c s') := by
  refine zc_of (k := kX11_undo) (rt := 1) (L := [some (.ref 0)]) zm_2219.1 rfl rfl (by decide) rfl rfl ?_
  unfold fX11_undo at h
  refine zr_many 1 (pc' := 1) (L' := [some (.ref 0)]) (st' := [.ref 0]) (S1 := zS c s) rfl ?_
  refine zq_get rfl (zh_0 _) rfl rfl rfl ?_
  refine zr_many 1 (pc' := 5) (L' := [some (.ref 0)]) (st' := [.ref 0, .ref 49]) (S1 := zS c s) rfl ?_
  refine zq_get rfl (zh_0 _) rfl rfl rfl ?_
  obtain ⟨r1, s2, g3, h⟩ := zb_inv h
  refine zq_call1 rfl rfl (zh_49 _) rfl rfl rfl (tX6_takeBack zM_17 g3) rfl ?_
  refine zq_if1 (b := r1 = 0) rfl Iff.rfl rfl (fun g4 => ?_) (fun g4 => ?_)
  · rw [if_pos g4] at h
    refine zr_many 1 (pc' := 25) (L' := [some (.ref 0)]) (st' := [.int (-1 : Int32)]) (S1 := zS c s2) rfl ?_
    exact zr_wk [none] trivial (tX11_undo_J25 h)
  · rw [if_neg g4] at h
    refine zr_many 1 (pc' := 15) (L' := [some (.ref 0)]) (st' := [.ref 0]) (S1 := zS c s2) rfl ?_
    refine zq_get rfl (zh_0 _) rfl rfl rfl ?_
    obtain ⟨r5, g7, h⟩ := zp_inv h
    refine zq_call1 rfl rfl (zh_49 _) rfl rfl rfl ((tX6_size g7).up (by decide)) rfl ?_
    refine zr_many 1 (pc' := 25) (L' := [some (.ref 0)]) (st' := [.int r5]) (S1 := zS c s2) rfl ?_
    exact zr_wk [none] trivial (tX11_undo_J25 h)
def fX11_sings_J22 (n : Nat) (s : zs) : Option (Int32 × zs) := some ((-1 : Int32), s)
theorem tX11_sings_J22 {n : Nat} {c : Nat × Nat} {s : zs} {r : Int32} {s' : zs} (h : fX11_sings_J22 n s = some (r, s')) : zr kX11_sings 1 4 22 [none, none, none] [] (zS c s) (some (.int r)) (zS c s') := by
  unfold fX11_sings_J22 at h
  refine zr_many 1 (pc' := 23) (L' := [none, none, none]) (st' := [.int (-1 : Int32)]) (S1 := zS c s) rfl ?_
  obtain ⟨rfl, rfl⟩ := Prod.mk.inj (Option.some.inj h)
  exact zq_iret rfl
def fX11_sings (n : Nat) (s : zs) (x1 : Int32) (x2 : Int32) : Option (Int32 × zs) := zp (fX0_hasBarge n s x1) (fun r1 => if r1 = 0 then fX11_sings_J22 n s else zp (fX0_hasLock n s x2) (fun r5 => if ¬ r5 = 0 then zp (fX1_gather n s 17 x2 (0 : Int32)) (fun s10 => zp (fX5_clear n s10) (fun s13 => zp (fX0_crewOf n s13 17 x1) (fun r15 => zb (fX1_settle n s13 r15) (fun r18 s19 => if ¬ r18 = 0 then zp (fX11_tellSong n s19) (fun s23 => some ((1 : Int32), s23)) else some ((0 : Int32), s19))))) else fX11_sings_J22 n s))
theorem tX11_sings {n : Nat} {c : Nat × Nat} {s : zs} {x1 : Int32} {x2 : Int32} {r : Int32} {s' : zs} (h : fX11_sings n s x1 x2 = some (r, s')) : zc 5 2228 [.ref 0, .int x1, .int x2] (zS c s) (some (.int r)) (zS c s') := by
  refine zc_of (k := kX11_sings) (rt := 1) (L := [some (.ref 0), some (.int x1), some (.int x2)]) zm_2228.1 rfl rfl (by decide) rfl rfl ?_
  unfold fX11_sings at h
  refine zr_many 1 (pc' := 1) (L' := [some (.ref 0), some (.int x1), some (.int x2)]) (st' := [.ref 0]) (S1 := zS c s) rfl ?_
  refine zq_get rfl (zh_0 _) rfl rfl rfl ?_
  refine zr_many 1 (pc' := 5) (L' := [some (.ref 0), some (.int x1), some (.int x2)]) (st' := [.int x1, .ref 5]) (S1 := zS c s) rfl ?_
  obtain ⟨r1, g3, h⟩ := zp_inv h
  refine zq_call1 rfl rfl (zh_5 _) rfl rfl rfl ((tX0_hasBarge g3).up (by decide)) rfl ?_
  refine zq_if1 (b := r1 = 0) rfl Iff.rfl rfl (fun g4 => ?_) (fun g4 => ?_)
  · rw [if_pos g4] at h
    exact zr_wk [none, none, none] trivial (tX11_sings_J22 h)
  · rw [if_neg g4] at h
    refine zr_many 1 (pc' := 12) (L' := [some (.ref 0), some (.int x1), some (.int x2)]) (st' := [.ref 0]) (S1 := zS c s) rfl ?_
    refine zq_get rfl (zh_0 _) rfl rfl rfl ?_
    refine zr_many 1 (pc' := 16) (L' := [some (.ref 0), some (.int x1), some (.int x2)]) (st' := [.int x2, .ref 5]) (S1 := zS c s) rfl ?_
    obtain ⟨r5, g7, h⟩ := zp_inv h
    refine zq_call1 rfl rfl (zh_5 _) rfl rfl rfl ((tX0_hasLock g7).up (by decide)) rfl ?_
    refine zq_if1 (b := ¬ r5 = 0) rfl Iff.rfl rfl (fun g8 => ?_) (fun g8 => ?_)
    · rw [if_pos g8] at h
      refine zr_many 1 (pc' := 25) (L' := [some (.ref 0), some (.int x1), some (.int x2)]) (st' := [.ref 0]) (S1 := zS c s) rfl ?_
      refine zq_get rfl (zh_0 _) rfl rfl rfl ?_
      refine zr_many 1 (pc' := 29) (L' := [some (.ref 0), some (.int x1), some (.int x2)]) (st' := [.ref 0, .ref 35]) (S1 := zS c s) rfl ?_
      refine zq_get rfl (zh_0 _) rfl rfl rfl ?_
      refine zr_many 2 (pc' := 34) (L' := [some (.ref 0), some (.int x1), some (.int x2)]) (st' := [.int (0 : Int32), .int x2, .ref 17, .ref 35]) (S1 := zS c s) rfl ?_
      obtain ⟨s10, g11, h⟩ := zp_inv h
      refine zq_call0 rfl rfl (zh_35 _) rfl rfl rfl ((tX1_gather zM_17 g11).up (by decide)) rfl ?_
      refine zr_many 1 (pc' := 38) (L' := [some (.ref 0), some (.int x1), some (.int x2)]) (st' := [.ref 0]) (S1 := zS c s10) rfl ?_
      refine zq_get rfl (zh_0 _) rfl rfl rfl ?_
      obtain ⟨s13, g14, h⟩ := zp_inv h
      refine zq_call0 rfl rfl (zh_3 _) rfl rfl rfl ((tX5_clear g14).up (by decide)) rfl ?_
      refine zr_many 1 (pc' := 45) (L' := [some (.ref 0), some (.int x1), some (.int x2)]) (st' := [.ref 0]) (S1 := zS c s13) rfl ?_
      refine zq_get rfl (zh_0 _) rfl rfl rfl ?_
      refine zr_many 1 (pc' := 49) (L' := [some (.ref 0), some (.int x1), some (.int x2)]) (st' := [.ref 0, .ref 35]) (S1 := zS c s13) rfl ?_
      refine zq_get rfl (zh_0 _) rfl rfl rfl ?_
      refine zr_many 1 (pc' := 53) (L' := [some (.ref 0), some (.int x1), some (.int x2)]) (st' := [.ref 0, .ref 5, .ref 35]) (S1 := zS c s13) rfl ?_
      refine zq_get rfl (zh_0 _) rfl rfl rfl ?_
      refine zr_many 1 (pc' := 57) (L' := [some (.ref 0), some (.int x1), some (.int x2)]) (st' := [.int x1, .ref 17, .ref 5, .ref 35]) (S1 := zS c s13) rfl ?_
      obtain ⟨r15, g17, h⟩ := zp_inv h
      refine zq_call1 rfl rfl (zh_5 _) rfl rfl rfl ((tX0_crewOf zM_17 g17).up (by decide)) rfl ?_
      obtain ⟨r18, s19, g20, h⟩ := zb_inv h
      refine zq_call1 rfl rfl (zh_35 _) rfl rfl rfl (tX1_settle g20) rfl ?_
      refine zq_if1 (b := ¬ r18 = 0) rfl Iff.rfl rfl (fun g21 => ?_) (fun g21 => ?_)
      · rw [if_pos g21] at h
        refine zr_many 1 (pc' := 69) (L' := [some (.ref 0), some (.int x1), some (.int x2)]) (st' := [.ref 0]) (S1 := zS c s19) rfl ?_
        obtain ⟨s23, g24, h⟩ := zp_inv h
        refine zq_call0 rfl rfl (zh_0 _) rfl rfl rfl ((tX11_tellSong g24).up (by decide)) rfl ?_
        refine zr_many 1 (pc' := 73) (L' := [some (.ref 0), some (.int x1), some (.int x2)]) (st' := [.int (1 : Int32)]) (S1 := zS c s23) rfl ?_
        obtain ⟨rfl, rfl⟩ := Prod.mk.inj (Option.some.inj h)
        exact zq_iret rfl
      · rw [if_neg g21] at h
        refine zr_many 1 (pc' := 67) (L' := [some (.ref 0), some (.int x1), some (.int x2)]) (st' := [.int (0 : Int32)]) (S1 := zS c s19) rfl ?_
        obtain ⟨rfl, rfl⟩ := Prod.mk.inj (Option.some.inj h)
        exact zq_iret rfl
    · rw [if_neg g8] at h
      exact zr_wk [none, none, none] trivial (tX11_sings_J22 h)
def fX11_lacks_J22 (n : Nat) (s : zs) : Option (Int32 × zs) := some ((-1 : Int32), s)
theorem tX11_lacks_J22 {n : Nat} {c : Nat × Nat} {s : zs} {r : Int32} {s' : zs} (h : fX11_lacks_J22 n s = some (r, s')) : zr kX11_lacks 1 3 22 [none, none, none, none] [] (zS c s) (some (.int r)) (zS c s') := by
  unfold fX11_lacks_J22 at h
  refine zr_many 1 (pc' := 23) (L' := [none, none, none, none]) (st' := [.int (-1 : Int32)]) (S1 := zS c s) rfl ?_
  obtain ⟨rfl, rfl⟩ := Prod.mk.inj (Option.some.inj h)
  exact zq_iret rfl
def fX11_lacks (n : Nat) (s : zs) (x1 : Int32) (x2 : Int32) : Option (Int32 × zs) := zp (fX0_hasBarge n s x1) (fun r1 => if r1 = 0 then fX11_lacks_J22 n s else zp (fX0_hasLock n s x2) (fun r5 => if ¬ r5 = 0 then zp (fX1_gather n s 17 x2 (0 : Int32)) (fun s10 => zp (fX0_crewOf n s10 17 x1) (fun r12 => zp (fX1_mostNotes n s10 r12) (fun r15 => zp (fX5_tell n s10 r15.toInt64) (fun s19 => zp (fJ6_bitCount_0f7a4 n s19 r15) (fun r21 => some (r21, s19)))))) else fX11_lacks_J22 n s))
theorem tX11_lacks {n : Nat} {c : Nat × Nat} {s : zs} {x1 : Int32} {x2 : Int32} {r : Int32} {s' : zs} (h : fX11_lacks n s x1 x2 = some (r, s')) : zc 4 2229 [.ref 0, .int x1, .int x2] (zS c s) (some (.int r)) (zS c s') := by
  refine zc_of (k := kX11_lacks) (rt := 1) (L := [some (.ref 0), some (.int x1), some (.int x2), none]) zm_2229.1 rfl rfl (by decide) rfl rfl ?_
  unfold fX11_lacks at h
  refine zr_many 1 (pc' := 1) (L' := [some (.ref 0), some (.int x1), some (.int x2), none]) (st' := [.ref 0]) (S1 := zS c s) rfl ?_
  refine zq_get rfl (zh_0 _) rfl rfl rfl ?_
  refine zr_many 1 (pc' := 5) (L' := [some (.ref 0), some (.int x1), some (.int x2), none]) (st' := [.int x1, .ref 5]) (S1 := zS c s) rfl ?_
  obtain ⟨r1, g3, h⟩ := zp_inv h
  refine zq_call1 rfl rfl (zh_5 _) rfl rfl rfl ((tX0_hasBarge g3).up (by decide)) rfl ?_
  refine zq_if1 (b := r1 = 0) rfl Iff.rfl rfl (fun g4 => ?_) (fun g4 => ?_)
  · rw [if_pos g4] at h
    exact zr_wk [none, none, none, none] trivial (tX11_lacks_J22 h)
  · rw [if_neg g4] at h
    refine zr_many 1 (pc' := 12) (L' := [some (.ref 0), some (.int x1), some (.int x2), none]) (st' := [.ref 0]) (S1 := zS c s) rfl ?_
    refine zq_get rfl (zh_0 _) rfl rfl rfl ?_
    refine zr_many 1 (pc' := 16) (L' := [some (.ref 0), some (.int x1), some (.int x2), none]) (st' := [.int x2, .ref 5]) (S1 := zS c s) rfl ?_
    obtain ⟨r5, g7, h⟩ := zp_inv h
    refine zq_call1 rfl rfl (zh_5 _) rfl rfl rfl ((tX0_hasLock g7).up (by decide)) rfl ?_
    refine zq_if1 (b := ¬ r5 = 0) rfl Iff.rfl rfl (fun g8 => ?_) (fun g8 => ?_)
    · rw [if_pos g8] at h
      refine zr_many 1 (pc' := 25) (L' := [some (.ref 0), some (.int x1), some (.int x2), none]) (st' := [.ref 0]) (S1 := zS c s) rfl ?_
      refine zq_get rfl (zh_0 _) rfl rfl rfl ?_
      refine zr_many 1 (pc' := 29) (L' := [some (.ref 0), some (.int x1), some (.int x2), none]) (st' := [.ref 0, .ref 35]) (S1 := zS c s) rfl ?_
      refine zq_get rfl (zh_0 _) rfl rfl rfl ?_
      refine zr_many 2 (pc' := 34) (L' := [some (.ref 0), some (.int x1), some (.int x2), none]) (st' := [.int (0 : Int32), .int x2, .ref 17, .ref 35]) (S1 := zS c s) rfl ?_
      obtain ⟨s10, g11, h⟩ := zp_inv h
      refine zq_call0 rfl rfl (zh_35 _) rfl rfl rfl (tX1_gather zM_17 g11) rfl ?_
      refine zr_many 1 (pc' := 38) (L' := [some (.ref 0), some (.int x1), some (.int x2), none]) (st' := [.ref 0]) (S1 := zS c s10) rfl ?_
      refine zq_get rfl (zh_0 _) rfl rfl rfl ?_
      refine zr_many 1 (pc' := 42) (L' := [some (.ref 0), some (.int x1), some (.int x2), none]) (st' := [.ref 0, .ref 35]) (S1 := zS c s10) rfl ?_
      refine zq_get rfl (zh_0 _) rfl rfl rfl ?_
      refine zr_many 1 (pc' := 46) (L' := [some (.ref 0), some (.int x1), some (.int x2), none]) (st' := [.ref 0, .ref 5, .ref 35]) (S1 := zS c s10) rfl ?_
      refine zq_get rfl (zh_0 _) rfl rfl rfl ?_
      refine zr_many 1 (pc' := 50) (L' := [some (.ref 0), some (.int x1), some (.int x2), none]) (st' := [.int x1, .ref 17, .ref 5, .ref 35]) (S1 := zS c s10) rfl ?_
      obtain ⟨r12, g14, h⟩ := zp_inv h
      refine zq_call1 rfl rfl (zh_5 _) rfl rfl rfl ((tX0_crewOf zM_17 g14).up (by decide)) rfl ?_
      obtain ⟨r15, g17, h⟩ := zp_inv h
      refine zq_call1 rfl rfl (zh_35 _) rfl rfl rfl (tX1_mostNotes g17) rfl ?_
      refine zr_many 2 (pc' := 58) (L' := [some (.ref 0), some (.int x1), some (.int x2), some (.int r15)]) (st' := [.ref 0]) (S1 := zS c s10) rfl ?_
      refine zq_get rfl (zh_0 _) rfl rfl rfl ?_
      refine zr_many 2 (pc' := 63) (L' := [some (.ref 0), some (.int x1), some (.int x2), some (.int r15)]) (st' := [.long r15.toInt64, .ref 3]) (S1 := zS c s10) rfl ?_
      obtain ⟨s19, g20, h⟩ := zp_inv h
      refine zq_call0 rfl rfl (zh_3 _) rfl rfl rfl ((tX5_tell g20).up (by decide)) rfl ?_
      refine zr_many 1 (pc' := 67) (L' := [some (.ref 0), some (.int x1), some (.int x2), some (.int r15)]) (st' := [.int r15]) (S1 := zS c s19) rfl ?_
      obtain ⟨r21, g23, h⟩ := zp_inv h
      refine zq_scall1 rfl (by decide) rfl rfl ((tJ6_bitCount_0f7a4 g23).up (by decide)) rfl ?_
      obtain ⟨rfl, rfl⟩ := Prod.mk.inj (Option.some.inj h)
      exact zq_iret rfl
    · rw [if_neg g8] at h
      exact zr_wk [none, none, none, none] trivial (tX11_lacks_J22 h)
def fX11_spoils_J22 (n : Nat) (s : zs) : Option (Int32 × zs) := some ((-1 : Int32), s)
theorem tX11_spoils_J22 {n : Nat} {c : Nat × Nat} {s : zs} {r : Int32} {s' : zs} (h : fX11_spoils_J22 n s = some (r, s')) : zr kX11_spoils 1 3 22 [none, none, none, none] [] (zS c s) (some (.int r)) (zS c s') := by
  unfold fX11_spoils_J22 at h
  refine zr_many 1 (pc' := 23) (L' := [none, none, none, none]) (st' := [.int (-1 : Int32)]) (S1 := zS c s) rfl ?_
  obtain ⟨rfl, rfl⟩ := Prod.mk.inj (Option.some.inj h)
  exact zq_iret rfl
def fX11_spoils (n : Nat) (s : zs) (x1 : Int32) (x2 : Int32) : Option (Int32 × zs) := zp (fX0_hasBarge n s x1) (fun r1 => if r1 = 0 then fX11_spoils_J22 n s else zp (fX0_hasLock n s x2) (fun r5 => if ¬ r5 = 0 then zp (fX1_gather n s 17 x2 (0 : Int32)) (fun s10 => zp (fX0_crewOf n s10 17 x1) (fun r12 => zp (fX1_fewestMissed n s10 r12) (fun r15 => zp (fX5_tell n s10 r15.toInt64) (fun s19 => zp (fJ6_bitCount_0f7a4 n s19 r15) (fun r21 => some (r21, s19)))))) else fX11_spoils_J22 n s))
theorem tX11_spoils {n : Nat} {c : Nat × Nat} {s : zs} {x1 : Int32} {x2 : Int32} {r : Int32} {s' : zs} (h : fX11_spoils n s x1 x2 = some (r, s')) : zc 4 2230 [.ref 0, .int x1, .int x2] (zS c s) (some (.int r)) (zS c s') := by
  refine zc_of (k := kX11_spoils) (rt := 1) (L := [some (.ref 0), some (.int x1), some (.int x2), none]) zm_2230.1 rfl rfl (by decide) rfl rfl ?_
  unfold fX11_spoils at h
  refine zr_many 1 (pc' := 1) (L' := [some (.ref 0), some (.int x1), some (.int x2), none]) (st' := [.ref 0]) (S1 := zS c s) rfl ?_
  refine zq_get rfl (zh_0 _) rfl rfl rfl ?_
  refine zr_many 1 (pc' := 5) (L' := [some (.ref 0), some (.int x1), some (.int x2), none]) (st' := [.int x1, .ref 5]) (S1 := zS c s) rfl ?_
  obtain ⟨r1, g3, h⟩ := zp_inv h
  refine zq_call1 rfl rfl (zh_5 _) rfl rfl rfl ((tX0_hasBarge g3).up (by decide)) rfl ?_
  refine zq_if1 (b := r1 = 0) rfl Iff.rfl rfl (fun g4 => ?_) (fun g4 => ?_)
  · rw [if_pos g4] at h
    exact zr_wk [none, none, none, none] trivial (tX11_spoils_J22 h)
  · rw [if_neg g4] at h
    refine zr_many 1 (pc' := 12) (L' := [some (.ref 0), some (.int x1), some (.int x2), none]) (st' := [.ref 0]) (S1 := zS c s) rfl ?_
    refine zq_get rfl (zh_0 _) rfl rfl rfl ?_
    refine zr_many 1 (pc' := 16) (L' := [some (.ref 0), some (.int x1), some (.int x2), none]) (st' := [.int x2, .ref 5]) (S1 := zS c s) rfl ?_
    obtain ⟨r5, g7, h⟩ := zp_inv h
    refine zq_call1 rfl rfl (zh_5 _) rfl rfl rfl ((tX0_hasLock g7).up (by decide)) rfl ?_
    refine zq_if1 (b := ¬ r5 = 0) rfl Iff.rfl rfl (fun g8 => ?_) (fun g8 => ?_)
    · rw [if_pos g8] at h
      refine zr_many 1 (pc' := 25) (L' := [some (.ref 0), some (.int x1), some (.int x2), none]) (st' := [.ref 0]) (S1 := zS c s) rfl ?_
      refine zq_get rfl (zh_0 _) rfl rfl rfl ?_
      refine zr_many 1 (pc' := 29) (L' := [some (.ref 0), some (.int x1), some (.int x2), none]) (st' := [.ref 0, .ref 35]) (S1 := zS c s) rfl ?_
      refine zq_get rfl (zh_0 _) rfl rfl rfl ?_
      refine zr_many 2 (pc' := 34) (L' := [some (.ref 0), some (.int x1), some (.int x2), none]) (st' := [.int (0 : Int32), .int x2, .ref 17, .ref 35]) (S1 := zS c s) rfl ?_
      obtain ⟨s10, g11, h⟩ := zp_inv h
      refine zq_call0 rfl rfl (zh_35 _) rfl rfl rfl (tX1_gather zM_17 g11) rfl ?_
      refine zr_many 1 (pc' := 38) (L' := [some (.ref 0), some (.int x1), some (.int x2), none]) (st' := [.ref 0]) (S1 := zS c s10) rfl ?_
      refine zq_get rfl (zh_0 _) rfl rfl rfl ?_
      refine zr_many 1 (pc' := 42) (L' := [some (.ref 0), some (.int x1), some (.int x2), none]) (st' := [.ref 0, .ref 35]) (S1 := zS c s10) rfl ?_
      refine zq_get rfl (zh_0 _) rfl rfl rfl ?_
      refine zr_many 1 (pc' := 46) (L' := [some (.ref 0), some (.int x1), some (.int x2), none]) (st' := [.ref 0, .ref 5, .ref 35]) (S1 := zS c s10) rfl ?_
      refine zq_get rfl (zh_0 _) rfl rfl rfl ?_
      refine zr_many 1 (pc' := 50) (L' := [some (.ref 0), some (.int x1), some (.int x2), none]) (st' := [.int x1, .ref 17, .ref 5, .ref 35]) (S1 := zS c s10) rfl ?_
      obtain ⟨r12, g14, h⟩ := zp_inv h
      refine zq_call1 rfl rfl (zh_5 _) rfl rfl rfl ((tX0_crewOf zM_17 g14).up (by decide)) rfl ?_
      obtain ⟨r15, g17, h⟩ := zp_inv h
      refine zq_call1 rfl rfl (zh_35 _) rfl rfl rfl (tX1_fewestMissed g17) rfl ?_
      refine zr_many 2 (pc' := 58) (L' := [some (.ref 0), some (.int x1), some (.int x2), some (.int r15)]) (st' := [.ref 0]) (S1 := zS c s10) rfl ?_
      refine zq_get rfl (zh_0 _) rfl rfl rfl ?_
      refine zr_many 2 (pc' := 63) (L' := [some (.ref 0), some (.int x1), some (.int x2), some (.int r15)]) (st' := [.long r15.toInt64, .ref 3]) (S1 := zS c s10) rfl ?_
      obtain ⟨s19, g20, h⟩ := zp_inv h
      refine zq_call0 rfl rfl (zh_3 _) rfl rfl rfl ((tX5_tell g20).up (by decide)) rfl ?_
      refine zr_many 1 (pc' := 67) (L' := [some (.ref 0), some (.int x1), some (.int x2), some (.int r15)]) (st' := [.int r15]) (S1 := zS c s19) rfl ?_
      obtain ⟨r21, g23, h⟩ := zp_inv h
      refine zq_scall1 rfl (by decide) rfl rfl ((tJ6_bitCount_0f7a4 g23).up (by decide)) rfl ?_
      obtain ⟨rfl, rfl⟩ := Prod.mk.inj (Option.some.inj h)
      exact zq_iret rfl
    · rw [if_neg g8] at h
      exact zr_wk [none, none, none, none] trivial (tX11_spoils_J22 h)
def fX11_singsShifted (n : Nat) (s : zs) (x1 : Int32) (x2 : Int32) (x3 : Int32) : Option (Int32 × zs) := zp (fX1_gather n s 17 x2 x3) (fun s2 => zb (fX1_settle n s2 x1) (fun r4 s5 => if ¬ r4 = 0 then zp (fX11_tellSong n s5) (fun s9 => some ((1 : Int32), s9)) else some ((0 : Int32), s5)))
theorem tX11_singsShifted {n : Nat} {c : Nat × Nat} {s : zs} {x1 : Int32} {x2 : Int32} {x3 : Int32} {r : Int32} {s' : zs} (h : fX11_singsShifted n s x1 x2 x3 = some (r, s')) : zc 5 2233 [.ref 0, .int x1, .int x2, .int x3] (zS c s) (some (.int r)) (zS c s') := by
  refine zc_of (k := kX11_singsShifted) (rt := 2) (L := [some (.ref 0), some (.int x1), some (.int x2), some (.int x3)]) zm_2233.1 rfl rfl (by decide) rfl rfl ?_
  unfold fX11_singsShifted at h
  refine zr_many 1 (pc' := 1) (L' := [some (.ref 0), some (.int x1), some (.int x2), some (.int x3)]) (st' := [.ref 0]) (S1 := zS c s) rfl ?_
  refine zq_get rfl (zh_0 _) rfl rfl rfl ?_
  refine zr_many 1 (pc' := 5) (L' := [some (.ref 0), some (.int x1), some (.int x2), some (.int x3)]) (st' := [.ref 0, .ref 35]) (S1 := zS c s) rfl ?_
  refine zq_get rfl (zh_0 _) rfl rfl rfl ?_
  refine zr_many 2 (pc' := 10) (L' := [some (.ref 0), some (.int x1), some (.int x2), some (.int x3)]) (st' := [.int x3, .int x2, .ref 17, .ref 35]) (S1 := zS c s) rfl ?_
  obtain ⟨s2, g3, h⟩ := zp_inv h
  refine zq_call0 rfl rfl (zh_35 _) rfl rfl rfl ((tX1_gather zM_17 g3).up (by decide)) rfl ?_
  refine zr_many 1 (pc' := 14) (L' := [some (.ref 0), some (.int x1), some (.int x2), some (.int x3)]) (st' := [.ref 0]) (S1 := zS c s2) rfl ?_
  refine zq_get rfl (zh_0 _) rfl rfl rfl ?_
  refine zr_many 1 (pc' := 18) (L' := [some (.ref 0), some (.int x1), some (.int x2), some (.int x3)]) (st' := [.int x1, .ref 35]) (S1 := zS c s2) rfl ?_
  obtain ⟨r4, s5, g6, h⟩ := zb_inv h
  refine zq_call1 rfl rfl (zh_35 _) rfl rfl rfl (tX1_settle g6) rfl ?_
  refine zq_if1 (b := ¬ r4 = 0) rfl Iff.rfl rfl (fun g7 => ?_) (fun g7 => ?_)
  · rw [if_pos g7] at h
    refine zr_many 1 (pc' := 27) (L' := [some (.ref 0), some (.int x1), some (.int x2), some (.int x3)]) (st' := [.ref 0]) (S1 := zS c s5) rfl ?_
    obtain ⟨s9, g10, h⟩ := zp_inv h
    refine zq_call0 rfl rfl (zh_0 _) rfl rfl rfl ((tX11_tellSong g10).up (by decide)) rfl ?_
    refine zr_many 1 (pc' := 31) (L' := [some (.ref 0), some (.int x1), some (.int x2), some (.int x3)]) (st' := [.int (1 : Int32)]) (S1 := zS c s9) rfl ?_
    obtain ⟨rfl, rfl⟩ := Prod.mk.inj (Option.some.inj h)
    exact zq_zret rfl (by decide)
  · rw [if_neg g7] at h
    refine zr_many 1 (pc' := 25) (L' := [some (.ref 0), some (.int x1), some (.int x2), some (.int x3)]) (st' := [.int (0 : Int32)]) (S1 := zS c s5) rfl ?_
    obtain ⟨rfl, rfl⟩ := Prod.mk.inj (Option.some.inj h)
    exact zq_zret rfl (by decide)
def fX11_shift_J22 (n : Nat) (s : zs) : Option (Int32 × zs) := some ((-1 : Int32), s)
theorem tX11_shift_J22 {n : Nat} {c : Nat × Nat} {s : zs} {r : Int32} {s' : zs} (h : fX11_shift_J22 n s = some (r, s')) : zr kX11_shift 1 5 22 [none, none, none, none, none] [] (zS c s) (some (.int r)) (zS c s') := by
  unfold fX11_shift_J22 at h
  refine zr_many 1 (pc' := 23) (L' := [none, none, none, none, none]) (st' := [.int (-1 : Int32)]) (S1 := zS c s) rfl ?_
  obtain ⟨rfl, rfl⟩ := Prod.mk.inj (Option.some.inj h)
  exact zq_iret rfl
def fX11_shift_B40 (n : Nat) (x2 : Int32) (x3 : Int32) (w40 : Int32 × zs) : Option ((Int32 × zs) ⊕ ((Int32 × zs) ⊕ ((Int32 × zs) ⊕ (zs)))) := if (26 : Int32) ≤ w40.1 then some (Sum.inr (Sum.inr (Sum.inr w40.2))) else zb (fX11_singsShifted n w40.2 x3 x2 (-w40.1)) (fun r13 s14 => if r13 = 0 then zb (fX11_singsShifted n s14 x3 x2 w40.1) (fun r17 s18 => if r17 = 0 then some (Sum.inl ((w40.1 + (1 : Int32)), s18)) else some (Sum.inr (Sum.inr (Sum.inl (w40.1, s18))))) else some (Sum.inr (Sum.inl (w40.1, s14))))
theorem tX11_shift_B40 {n : Nat} {c : Nat × Nat} {x2 : Int32} {x3 : Int32} {w40 : Int32 × zs} {o : _} {v : Option Value} {S' : zi_S} (h : fX11_shift_B40 n x2 x3 w40 = some o) (hn : ∀ w40, o = Sum.inl w40 → zr kX11_shift 1 5 40 [some (.ref 0), none, some (.int x2), some (.int x3), some (.int w40.1)] [] (zS c w40.2) v S') (hx : ∀ z, o = Sum.inr z → (Sum.elim (fun z => zr kX11_shift 1 5 59 [none, none, none, none, some (.int z.1)] [] (zS c z.2) v S') (Sum.elim (fun z => zr kX11_shift 1 5 76 [none, none, none, none, some (.int z.1)] [] (zS c z.2) v S') (fun z => zr kX11_shift 1 5 88 [none, none, none, none, none] [] (zS c z) v S'))) z) : zr kX11_shift 1 5 40 [some (.ref 0), none, some (.int x2), some (.int x3), some (.int w40.1)] [] (zS c w40.2) v S' := by
  unfold fX11_shift_B40 at h
  refine zr_many 2 (pc' := 44) (L' := [some (.ref 0), none, some (.int x2), some (.int x3), some (.int w40.1)]) (st' := [.int (26 : Int32), .int w40.1]) (S1 := zS c w40.2) rfl ?_
  refine zq_if2 (b := (26 : Int32) ≤ w40.1) rfl Iff.rfl rfl (fun g12 => ?_) (fun g12 => ?_)
  · rw [if_pos g12] at h
    obtain rfl := Option.some.inj h
    exact zr_wk [none, none, none, none, none] trivial (hx (Sum.inr (Sum.inr w40.2)) rfl)
  · rw [if_neg g12] at h
    refine zr_many 5 (pc' := 53) (L' := [some (.ref 0), none, some (.int x2), some (.int x3), some (.int w40.1)]) (st' := [.int (-w40.1), .int x2, .int x3, .ref 0]) (S1 := zS c w40.2) rfl ?_
    obtain ⟨r13, s14, g15, h⟩ := zb_inv h
    refine zq_call1 rfl rfl (zh_0 _) rfl rfl rfl (tX11_singsShifted g15) rfl ?_
    refine zq_if1 (b := r13 = 0) rfl Iff.rfl rfl (fun g16 => ?_) (fun g16 => ?_)
    · rw [if_pos g16] at h
      refine zr_many 4 (pc' := 70) (L' := [some (.ref 0), none, some (.int x2), some (.int x3), some (.int w40.1)]) (st' := [.int w40.1, .int x2, .int x3, .ref 0]) (S1 := zS c s14) rfl ?_
      obtain ⟨r17, s18, g19, h⟩ := zb_inv h
      refine zq_call1 rfl rfl (zh_0 _) rfl rfl rfl (tX11_singsShifted g19) rfl ?_
      refine zq_if1 (b := r17 = 0) rfl Iff.rfl rfl (fun g20 => ?_) (fun g20 => ?_)
      · rw [if_pos g20] at h
        refine zr_many 2 (pc' := 40) (L' := [some (.ref 0), none, some (.int x2), some (.int x3), some (.int (w40.1 + (1 : Int32)))]) (st' := []) (S1 := zS c s18) rfl ?_
        obtain rfl := Option.some.inj h
        exact zr_wk [some (.ref 0), none, some (.int x2), some (.int x3), some (.int (w40.1 + (1 : Int32)))] ⟨rfl, rfl, rfl, rfl, trivial⟩ (hn ((w40.1 + (1 : Int32)), s18) rfl)
      · rw [if_neg g20] at h
        obtain rfl := Option.some.inj h
        exact zr_wk [none, none, none, none, some (.int w40.1)] ⟨rfl, trivial⟩ (hx (Sum.inr (Sum.inl (w40.1, s18))) rfl)
    · rw [if_neg g16] at h
      obtain rfl := Option.some.inj h
      exact zr_wk [none, none, none, none, some (.int w40.1)] ⟨rfl, trivial⟩ (hx (Sum.inl (w40.1, s14)) rfl)
def fX11_shift (n : Nat) (s : zs) (x1 : Int32) (x2 : Int32) : Option (Int32 × zs) := zp (fX0_hasBarge n s x1) (fun r1 => if r1 = 0 then fX11_shift_J22 n s else zp (fX0_hasLock n s x2) (fun r5 => if ¬ r5 = 0 then zp (fX0_crewOf n s 17 x1) (fun r9 => zp (zl (fX11_shift_B40 n x2 r9) n ((0 : Int32), s)) (Sum.elim (fun w21 => some (((100 : Int32) - w21.1), w21.2)) (Sum.elim (fun w22 => some (((100 : Int32) + w22.1), w22.2)) (fun w23 => some ((-2 : Int32), w23))))) else fX11_shift_J22 n s))
theorem tX11_shift {n : Nat} {c : Nat × Nat} {s : zs} {x1 : Int32} {x2 : Int32} {r : Int32} {s' : zs} (h : fX11_shift n s x1 x2 = some (r, s')) : zc 6 2231 [.ref 0, .int x1, .int x2] (zS c s) (some (.int r)) (zS c s') := by
  refine zc_of (k := kX11_shift) (rt := 1) (L := [some (.ref 0), some (.int x1), some (.int x2), none, none]) zm_2231.1 rfl rfl (by decide) rfl rfl ?_
  unfold fX11_shift at h
  refine zr_many 1 (pc' := 1) (L' := [some (.ref 0), some (.int x1), some (.int x2), none, none]) (st' := [.ref 0]) (S1 := zS c s) rfl ?_
  refine zq_get rfl (zh_0 _) rfl rfl rfl ?_
  refine zr_many 1 (pc' := 5) (L' := [some (.ref 0), some (.int x1), some (.int x2), none, none]) (st' := [.int x1, .ref 5]) (S1 := zS c s) rfl ?_
  obtain ⟨r1, g3, h⟩ := zp_inv h
  refine zq_call1 rfl rfl (zh_5 _) rfl rfl rfl ((tX0_hasBarge g3).up (by decide)) rfl ?_
  refine zq_if1 (b := r1 = 0) rfl Iff.rfl rfl (fun g4 => ?_) (fun g4 => ?_)
  · rw [if_pos g4] at h
    exact zr_wk [none, none, none, none, none] trivial (tX11_shift_J22 h)
  · rw [if_neg g4] at h
    refine zr_many 1 (pc' := 12) (L' := [some (.ref 0), some (.int x1), some (.int x2), none, none]) (st' := [.ref 0]) (S1 := zS c s) rfl ?_
    refine zq_get rfl (zh_0 _) rfl rfl rfl ?_
    refine zr_many 1 (pc' := 16) (L' := [some (.ref 0), some (.int x1), some (.int x2), none, none]) (st' := [.int x2, .ref 5]) (S1 := zS c s) rfl ?_
    obtain ⟨r5, g7, h⟩ := zp_inv h
    refine zq_call1 rfl rfl (zh_5 _) rfl rfl rfl ((tX0_hasLock g7).up (by decide)) rfl ?_
    refine zq_if1 (b := ¬ r5 = 0) rfl Iff.rfl rfl (fun g8 => ?_) (fun g8 => ?_)
    · rw [if_pos g8] at h
      refine zr_many 1 (pc' := 25) (L' := [some (.ref 0), some (.int x1), some (.int x2), none, none]) (st' := [.ref 0]) (S1 := zS c s) rfl ?_
      refine zq_get rfl (zh_0 _) rfl rfl rfl ?_
      refine zr_many 1 (pc' := 29) (L' := [some (.ref 0), some (.int x1), some (.int x2), none, none]) (st' := [.ref 0, .ref 5]) (S1 := zS c s) rfl ?_
      refine zq_get rfl (zh_0 _) rfl rfl rfl ?_
      refine zr_many 1 (pc' := 33) (L' := [some (.ref 0), some (.int x1), some (.int x2), none, none]) (st' := [.int x1, .ref 17, .ref 5]) (S1 := zS c s) rfl ?_
      obtain ⟨r9, g11, h⟩ := zp_inv h
      refine zq_call1 rfl rfl (zh_5 _) rfl rfl rfl ((tX0_crewOf zM_17 g11).up (by decide)) rfl ?_
      refine zr_many 3 (pc' := 40) (L' := [some (.ref 0), some (.int x1), some (.int x2), some (.int r9), some (.int (0 : Int32))]) (st' := []) (S1 := zS c s) rfl ?_
      obtain ⟨w25, g24, h⟩ := zp_inv h
      rcases w25 with w21 | w22 | w23
      · simp only [Sum.elim_inl, Sum.elim_inr] at h
        refine zr_wk [some (.ref 0), none, some (.int x2), some (.int r9), some (.int (0 : Int32))] ⟨rfl, rfl, rfl, rfl, trivial⟩ (zl_cert (Z := fun w40 => zr kX11_shift 1 5 40 [some (.ref 0), none, some (.int x2), some (.int r9), some (.int w40.1)] [] (zS c w40.2) _ _) (Y := (Sum.elim (fun z => zr kX11_shift 1 5 59 [none, none, none, none, some (.int z.1)] [] (zS c z.2) _ _) (Sum.elim (fun z => zr kX11_shift 1 5 76 [none, none, none, none, some (.int z.1)] [] (zS c z.2) _ _) (fun z => zr kX11_shift 1 5 88 [none, none, none, none, none] [] (zS c z) _ _)))) (fun w o h1 h2 h3 => tX11_shift_B40 h1 h2 h3) n _ _ g24 ?_)
        show zr kX11_shift 1 5 59 [none, none, none, none, some (.int w21.1)] [] (zS c w21.2) _ _
        refine zr_many 3 (pc' := 64) (L' := [none, none, none, none, some (.int w21.1)]) (st' := [.int ((100 : Int32) - w21.1)]) (S1 := zS c w21.2) rfl ?_
        obtain ⟨rfl, rfl⟩ := Prod.mk.inj (Option.some.inj h)
        exact zq_iret rfl
      · simp only [Sum.elim_inl, Sum.elim_inr] at h
        refine zr_wk [some (.ref 0), none, some (.int x2), some (.int r9), some (.int (0 : Int32))] ⟨rfl, rfl, rfl, rfl, trivial⟩ (zl_cert (Z := fun w40 => zr kX11_shift 1 5 40 [some (.ref 0), none, some (.int x2), some (.int r9), some (.int w40.1)] [] (zS c w40.2) _ _) (Y := (Sum.elim (fun z => zr kX11_shift 1 5 59 [none, none, none, none, some (.int z.1)] [] (zS c z.2) _ _) (Sum.elim (fun z => zr kX11_shift 1 5 76 [none, none, none, none, some (.int z.1)] [] (zS c z.2) _ _) (fun z => zr kX11_shift 1 5 88 [none, none, none, none, none] [] (zS c z) _ _)))) (fun w o h1 h2 h3 => tX11_shift_B40 h1 h2 h3) n _ _ g24 ?_)
        show zr kX11_shift 1 5 76 [none, none, none, none, some (.int w22.1)] [] (zS c w22.2) _ _
        refine zr_many 3 (pc' := 81) (L' := [none, none, none, none, some (.int w22.1)]) (st' := [.int ((100 : Int32) + w22.1)]) (S1 := zS c w22.2) rfl ?_
        obtain ⟨rfl, rfl⟩ := Prod.mk.inj (Option.some.inj h)
        exact zq_iret rfl
      · simp only [Sum.elim_inl, Sum.elim_inr] at h
        refine zr_wk [some (.ref 0), none, some (.int x2), some (.int r9), some (.int (0 : Int32))] ⟨rfl, rfl, rfl, rfl, trivial⟩ (zl_cert (Z := fun w40 => zr kX11_shift 1 5 40 [some (.ref 0), none, some (.int x2), some (.int r9), some (.int w40.1)] [] (zS c w40.2) _ _) (Y := (Sum.elim (fun z => zr kX11_shift 1 5 59 [none, none, none, none, some (.int z.1)] [] (zS c z.2) _ _) (Sum.elim (fun z => zr kX11_shift 1 5 76 [none, none, none, none, some (.int z.1)] [] (zS c z.2) _ _) (fun z => zr kX11_shift 1 5 88 [none, none, none, none, none] [] (zS c z) _ _)))) (fun w o h1 h2 h3 => tX11_shift_B40 h1 h2 h3) n _ _ g24 ?_)
        show zr kX11_shift 1 5 88 [none, none, none, none, none] [] (zS c w23) _ _
        refine zr_many 1 (pc' := 90) (L' := [none, none, none, none, none]) (st' := [.int (-2 : Int32)]) (S1 := zS c w23) rfl ?_
        obtain ⟨rfl, rfl⟩ := Prod.mk.inj (Option.some.inj h)
        exact zq_iret rfl
    · rw [if_neg g8] at h
      exact zr_wk [none, none, none, none, none] trivial (tX11_shift_J22 h)
def fX11_tellHired (n : Nat) (s : zs) (x1 : Int32) : Option (Int32 × zs) := if 0 ≤ x1 then zp (fX0_feesOf n s x1) (fun r2 => zp (fX5_tell n s r2.toInt64) (fun s6 => some (x1, s6))) else some ((-2 : Int32), s)
theorem tX11_tellHired {n : Nat} {c : Nat × Nat} {s : zs} {x1 : Int32} {r : Int32} {s' : zs} (h : fX11_tellHired n s x1 = some (r, s')) : zc 3 2235 [.ref 0, .int x1] (zS c s) (some (.int r)) (zS c s') := by
  refine zc_of (k := kX11_tellHired) (rt := 1) (L := [some (.ref 0), some (.int x1)]) zm_2235.1 rfl rfl (by decide) rfl rfl ?_
  unfold fX11_tellHired at h
  refine zr_many 1 (pc' := 1) (L' := [some (.ref 0), some (.int x1)]) (st' := [.int x1]) (S1 := zS c s) rfl ?_
  refine zq_if1 (b := 0 ≤ x1) rfl Iff.rfl rfl (fun g1 => ?_) (fun g1 => ?_)
  · rw [if_pos g1] at h
    refine zr_many 1 (pc' := 8) (L' := [some (.ref 0), some (.int x1)]) (st' := [.ref 0]) (S1 := zS c s) rfl ?_
    refine zq_get rfl (zh_0 _) rfl rfl rfl ?_
    refine zr_many 1 (pc' := 12) (L' := [some (.ref 0), some (.int x1)]) (st' := [.ref 0, .ref 3]) (S1 := zS c s) rfl ?_
    refine zq_get rfl (zh_0 _) rfl rfl rfl ?_
    refine zr_many 1 (pc' := 16) (L' := [some (.ref 0), some (.int x1)]) (st' := [.int x1, .ref 5, .ref 3]) (S1 := zS c s) rfl ?_
    obtain ⟨r2, g4, h⟩ := zp_inv h
    refine zq_call1 rfl rfl (zh_5 _) rfl rfl rfl ((tX0_feesOf g4).up (by decide)) rfl ?_
    refine zr_many 1 (pc' := 20) (L' := [some (.ref 0), some (.int x1)]) (st' := [.long r2.toInt64, .ref 3]) (S1 := zS c s) rfl ?_
    obtain ⟨s6, g7, h⟩ := zp_inv h
    refine zq_call0 rfl rfl (zh_3 _) rfl rfl rfl (tX5_tell g7) rfl ?_
    refine zr_many 1 (pc' := 24) (L' := [some (.ref 0), some (.int x1)]) (st' := [.int x1]) (S1 := zS c s6) rfl ?_
    obtain ⟨rfl, rfl⟩ := Prod.mk.inj (Option.some.inj h)
    exact zq_iret rfl
  · rw [if_neg g1] at h
    refine zr_many 1 (pc' := 6) (L' := [some (.ref 0), some (.int x1)]) (st' := [.int (-2 : Int32)]) (S1 := zS c s) rfl ?_
    obtain ⟨rfl, rfl⟩ := Prod.mk.inj (Option.some.inj h)
    exact zq_iret rfl
def fX11_voices_J22 (n : Nat) (s : zs) : Option (Int32 × zs) := some ((-1 : Int32), s)
theorem tX11_voices_J22 {n : Nat} {c : Nat × Nat} {s : zs} {r : Int32} {s' : zs} (h : fX11_voices_J22 n s = some (r, s')) : zr kX11_voices 1 4 22 [none, none, none, none] [] (zS c s) (some (.int r)) (zS c s') := by
  unfold fX11_voices_J22 at h
  refine zr_many 1 (pc' := 23) (L' := [none, none, none, none]) (st' := [.int (-1 : Int32)]) (S1 := zS c s) rfl ?_
  obtain ⟨rfl, rfl⟩ := Prod.mk.inj (Option.some.inj h)
  exact zq_iret rfl
def fX11_voices (n : Nat) (s : zs) (x1 : Int32) (x2 : Int32) : Option (Int32 × zs) := zp (fX0_hasBarge n s x1) (fun r1 => if r1 = 0 then fX11_voices_J22 n s else zp (fX0_hasLock n s x2) (fun r5 => if ¬ r5 = 0 then cond (zi_in x1 4) (zp (fX0_freeAt n s 17 (s.1 21 x1.toNatClampNeg)) (fun r10 => zp (fX2_begin n s) (fun s14 => zp (fX0_crewOf n s14 17 x1) (fun r16 => zp (fX2_mustSing n s14 17 x2 r16 r10) (fun s20 => zp (fX2_cheapest n s20 r10) (fun r22 => zb (fX11_tellHired n s20 r22) (fun r25 s26 => some (r25, s26)))))))) none else fX11_voices_J22 n s))
theorem tX11_voices {n : Nat} {c : Nat × Nat} {s : zs} {x1 : Int32} {x2 : Int32} {r : Int32} {s' : zs} (h : fX11_voices n s x1 x2 = some (r, s')) : zc 5 2232 [.ref 0, .int x1, .int x2] (zS c s) (some (.int r)) (zS c s') := by
  refine zc_of (k := kX11_voices) (rt := 1) (L := [some (.ref 0), some (.int x1), some (.int x2), none]) zm_2232.1 rfl rfl (by decide) rfl rfl ?_
  unfold fX11_voices at h
  refine zr_many 1 (pc' := 1) (L' := [some (.ref 0), some (.int x1), some (.int x2), none]) (st' := [.ref 0]) (S1 := zS c s) rfl ?_
  refine zq_get rfl (zh_0 _) rfl rfl rfl ?_
  refine zr_many 1 (pc' := 5) (L' := [some (.ref 0), some (.int x1), some (.int x2), none]) (st' := [.int x1, .ref 5]) (S1 := zS c s) rfl ?_
  obtain ⟨r1, g3, h⟩ := zp_inv h
  refine zq_call1 rfl rfl (zh_5 _) rfl rfl rfl ((tX0_hasBarge g3).up (by decide)) rfl ?_
  refine zq_if1 (b := r1 = 0) rfl Iff.rfl rfl (fun g4 => ?_) (fun g4 => ?_)
  · rw [if_pos g4] at h
    exact zr_wk [none, none, none, none] trivial (tX11_voices_J22 h)
  · rw [if_neg g4] at h
    refine zr_many 1 (pc' := 12) (L' := [some (.ref 0), some (.int x1), some (.int x2), none]) (st' := [.ref 0]) (S1 := zS c s) rfl ?_
    refine zq_get rfl (zh_0 _) rfl rfl rfl ?_
    refine zr_many 1 (pc' := 16) (L' := [some (.ref 0), some (.int x1), some (.int x2), none]) (st' := [.int x2, .ref 5]) (S1 := zS c s) rfl ?_
    obtain ⟨r5, g7, h⟩ := zp_inv h
    refine zq_call1 rfl rfl (zh_5 _) rfl rfl rfl ((tX0_hasLock g7).up (by decide)) rfl ?_
    refine zq_if1 (b := ¬ r5 = 0) rfl Iff.rfl rfl (fun g8 => ?_) (fun g8 => ?_)
    · rw [if_pos g8] at h
      refine zr_many 1 (pc' := 25) (L' := [some (.ref 0), some (.int x1), some (.int x2), none]) (st' := [.ref 0]) (S1 := zS c s) rfl ?_
      refine zq_get rfl (zh_0 _) rfl rfl rfl ?_
      refine zr_many 1 (pc' := 29) (L' := [some (.ref 0), some (.int x1), some (.int x2), none]) (st' := [.ref 0, .ref 5]) (S1 := zS c s) rfl ?_
      refine zq_get rfl (zh_0 _) rfl rfl rfl ?_
      refine zr_many 1 (pc' := 33) (L' := [some (.ref 0), some (.int x1), some (.int x2), none]) (st' := [.ref 0, .ref 17, .ref 5]) (S1 := zS c s) rfl ?_
      refine zq_get rfl (zh_0 _) rfl rfl rfl ?_
      refine zq_get rfl (zh_17 _) rfl rfl rfl ?_
      refine zr_many 1 (pc' := 40) (L' := [some (.ref 0), some (.int x1), some (.int x2), none]) (st' := [.int x1, .ref 21, .ref 17, .ref 5]) (S1 := zS c s) rfl ?_
      obtain ⟨g9, h⟩ := zi_cond_inv h
      refine zq_ild rfl (zh_21 _) rfl g9 rfl ?_
      obtain ⟨r10, g12, h⟩ := zp_inv h
      refine zq_call1 rfl rfl (zh_5 _) rfl rfl rfl ((tX0_freeAt zM_17 g12).up (by decide)) rfl ?_
      refine zr_many 2 (pc' := 46) (L' := [some (.ref 0), some (.int x1), some (.int x2), some (.int r10)]) (st' := [.ref 0]) (S1 := zS c s) rfl ?_
      refine zq_get rfl (zh_0 _) rfl rfl rfl ?_
      obtain ⟨s14, g15, h⟩ := zp_inv h
      refine zq_call0 rfl rfl (zh_41 _) rfl rfl rfl ((tX2_begin g15).up (by decide)) rfl ?_
      refine zr_many 1 (pc' := 53) (L' := [some (.ref 0), some (.int x1), some (.int x2), some (.int r10)]) (st' := [.ref 0]) (S1 := zS c s14) rfl ?_
      refine zq_get rfl (zh_0 _) rfl rfl rfl ?_
      refine zr_many 1 (pc' := 57) (L' := [some (.ref 0), some (.int x1), some (.int x2), some (.int r10)]) (st' := [.ref 0, .ref 41]) (S1 := zS c s14) rfl ?_
      refine zq_get rfl (zh_0 _) rfl rfl rfl ?_
      refine zr_many 2 (pc' := 62) (L' := [some (.ref 0), some (.int x1), some (.int x2), some (.int r10)]) (st' := [.ref 0, .int x2, .ref 17, .ref 41]) (S1 := zS c s14) rfl ?_
      refine zq_get rfl (zh_0 _) rfl rfl rfl ?_
      refine zr_many 1 (pc' := 66) (L' := [some (.ref 0), some (.int x1), some (.int x2), some (.int r10)]) (st' := [.ref 0, .ref 5, .int x2, .ref 17, .ref 41]) (S1 := zS c s14) rfl ?_
      refine zq_get rfl (zh_0 _) rfl rfl rfl ?_
      refine zr_many 1 (pc' := 70) (L' := [some (.ref 0), some (.int x1), some (.int x2), some (.int r10)]) (st' := [.int x1, .ref 17, .ref 5, .int x2, .ref 17, .ref 41]) (S1 := zS c s14) rfl ?_
      obtain ⟨r16, g18, h⟩ := zp_inv h
      refine zq_call1 rfl rfl (zh_5 _) rfl rfl rfl ((tX0_crewOf zM_17 g18).up (by decide)) rfl ?_
      refine zr_many 1 (pc' := 74) (L' := [some (.ref 0), some (.int x1), some (.int x2), some (.int r10)]) (st' := [.int r10, .int r16, .int x2, .ref 17, .ref 41]) (S1 := zS c s14) rfl ?_
      obtain ⟨s20, g21, h⟩ := zp_inv h
      refine zq_call0 rfl rfl (zh_41 _) rfl rfl rfl (tX2_mustSing zM_17 g21) rfl ?_
      refine zr_many 2 (pc' := 79) (L' := [some (.ref 0), some (.int x1), some (.int x2), some (.int r10)]) (st' := [.ref 0, .ref 0]) (S1 := zS c s20) rfl ?_
      refine zq_get rfl (zh_0 _) rfl rfl rfl ?_
      refine zr_many 1 (pc' := 83) (L' := [some (.ref 0), some (.int x1), some (.int x2), some (.int r10)]) (st' := [.int r10, .ref 41, .ref 0]) (S1 := zS c s20) rfl ?_
      obtain ⟨r22, g24, h⟩ := zp_inv h
      refine zq_call1 rfl rfl (zh_41 _) rfl rfl rfl ((tX2_cheapest g24).up (by decide)) rfl ?_
      obtain ⟨r25, s26, g27, h⟩ := zb_inv h
      refine zq_call1 rfl rfl (zh_0 _) rfl rfl rfl ((tX11_tellHired g27).up (by decide)) rfl ?_
      obtain ⟨rfl, rfl⟩ := Prod.mk.inj (Option.some.inj h)
      exact zq_iret rfl
    · rw [if_neg g8] at h
      exact zr_wk [none, none, none, none] trivial (tX11_voices_J22 h)
def fX11_journey_J22 (n : Nat) (s : zs) : Option (Int32 × zs) := some ((-1 : Int32), s)
theorem tX11_journey_J22 {n : Nat} {c : Nat × Nat} {s : zs} {r : Int32} {s' : zs} (h : fX11_journey_J22 n s = some (r, s')) : zr kX11_journey 1 9 22 [none, none, none, none] [] (zS c s) (some (.int r)) (zS c s') := by
  unfold fX11_journey_J22 at h
  refine zr_many 1 (pc' := 23) (L' := [none, none, none, none]) (st' := [.int (-1 : Int32)]) (S1 := zS c s) rfl ?_
  obtain ⟨rfl, rfl⟩ := Prod.mk.inj (Option.some.inj h)
  exact zq_iret rfl
def fX11_journey (n : Nat) (s : zs) (x1 : Int32) (x2 : Int32) : Option (Int32 × zs) := zp (fX0_hasBarge n s x1) (fun r1 => if r1 = 0 then fX11_journey_J22 n s else zp (fX0_hasPlace n s x2) (fun r5 => if ¬ r5 = 0 then zp (fX3_copy n s 29 17) (fun s10 => zb (fX9_travel n s10 29 x1 x2) (fun r12 s13 => zp (fX5_tell n s13 ((s13.1 38 4).toInt64)) (fun s16 => if 0 ≤ r12 then zp (fX5_add n s16 (((s16.1 17 1) - (s16.1 29 1)).toInt64)) (fun s20 => zp (fX0_crewOf n s20 29 x1) (fun r22 => zp (fX0_tiredOf n s20 29 r22) (fun r25 => zp (fX5_add n s20 r25.toInt64) (fun s29 => some (((s29.1 29 2) - (s29.1 17 2)), s29))))) else zp (fX9_way n s16 29 x1 x2) (fun r31 => zp (fX9_lockAhead n s16 29 x1 r31) (fun r34 => zp (fX5_add n s16 r34.toInt64) (fun s38 => zp (fX5_add n s38 ((-r12).toInt64)) (fun s41 => some ((-2 : Int32), s41)))))))) else fX11_journey_J22 n s))
theorem tX11_journey {n : Nat} {c : Nat × Nat} {s : zs} {x1 : Int32} {x2 : Int32} {r : Int32} {s' : zs} (h : fX11_journey n s x1 x2 = some (r, s')) : zc 10 2236 [.ref 0, .int x1, .int x2] (zS c s) (some (.int r)) (zS c s') := by
  refine zc_of (k := kX11_journey) (rt := 1) (L := [some (.ref 0), some (.int x1), some (.int x2), none]) zm_2236.1 rfl rfl (by decide) rfl rfl ?_
  unfold fX11_journey at h
  refine zr_many 1 (pc' := 1) (L' := [some (.ref 0), some (.int x1), some (.int x2), none]) (st' := [.ref 0]) (S1 := zS c s) rfl ?_
  refine zq_get rfl (zh_0 _) rfl rfl rfl ?_
  refine zr_many 1 (pc' := 5) (L' := [some (.ref 0), some (.int x1), some (.int x2), none]) (st' := [.int x1, .ref 5]) (S1 := zS c s) rfl ?_
  obtain ⟨r1, g3, h⟩ := zp_inv h
  refine zq_call1 rfl rfl (zh_5 _) rfl rfl rfl ((tX0_hasBarge g3).up (by decide)) rfl ?_
  refine zq_if1 (b := r1 = 0) rfl Iff.rfl rfl (fun g4 => ?_) (fun g4 => ?_)
  · rw [if_pos g4] at h
    exact zr_wk [none, none, none, none] trivial (tX11_journey_J22 h)
  · rw [if_neg g4] at h
    refine zr_many 1 (pc' := 12) (L' := [some (.ref 0), some (.int x1), some (.int x2), none]) (st' := [.ref 0]) (S1 := zS c s) rfl ?_
    refine zq_get rfl (zh_0 _) rfl rfl rfl ?_
    refine zr_many 1 (pc' := 16) (L' := [some (.ref 0), some (.int x1), some (.int x2), none]) (st' := [.int x2, .ref 5]) (S1 := zS c s) rfl ?_
    obtain ⟨r5, g7, h⟩ := zp_inv h
    refine zq_call1 rfl rfl (zh_5 _) rfl rfl rfl ((tX0_hasPlace g7).up (by decide)) rfl ?_
    refine zq_if1 (b := ¬ r5 = 0) rfl Iff.rfl rfl (fun g8 => ?_) (fun g8 => ?_)
    · rw [if_pos g8] at h
      refine zr_many 1 (pc' := 25) (L' := [some (.ref 0), some (.int x1), some (.int x2), none]) (st' := [.ref 0]) (S1 := zS c s) rfl ?_
      refine zq_get rfl (zh_0 _) rfl rfl rfl ?_
      refine zr_many 1 (pc' := 29) (L' := [some (.ref 0), some (.int x1), some (.int x2), none]) (st' := [.ref 0, .ref 29]) (S1 := zS c s) rfl ?_
      refine zq_get rfl (zh_0 _) rfl rfl rfl ?_
      obtain ⟨s10, g11, h⟩ := zp_inv h
      refine zq_call0 rfl rfl (zh_29 _) rfl rfl rfl ((tX3_copy zM_29 zM_17 g11).up (by decide)) rfl ?_
      refine zr_many 1 (pc' := 36) (L' := [some (.ref 0), some (.int x1), some (.int x2), none]) (st' := [.ref 0]) (S1 := zS c s10) rfl ?_
      refine zq_get rfl (zh_0 _) rfl rfl rfl ?_
      refine zr_many 1 (pc' := 40) (L' := [some (.ref 0), some (.int x1), some (.int x2), none]) (st' := [.ref 0, .ref 38]) (S1 := zS c s10) rfl ?_
      refine zq_get rfl (zh_0 _) rfl rfl rfl ?_
      refine zr_many 2 (pc' := 45) (L' := [some (.ref 0), some (.int x1), some (.int x2), none]) (st' := [.int x2, .int x1, .ref 29, .ref 38]) (S1 := zS c s10) rfl ?_
      obtain ⟨r12, s13, g14, h⟩ := zb_inv h
      refine zq_call1 rfl rfl (zh_38 _) rfl rfl rfl (tX9_travel zM_29 g14) rfl ?_
      refine zr_many 2 (pc' := 50) (L' := [some (.ref 0), some (.int x1), some (.int x2), some (.int r12)]) (st' := [.ref 0]) (S1 := zS c s13) rfl ?_
      refine zq_get rfl (zh_0 _) rfl rfl rfl ?_
      refine zr_many 1 (pc' := 54) (L' := [some (.ref 0), some (.int x1), some (.int x2), some (.int r12)]) (st' := [.ref 0, .ref 3]) (S1 := zS c s13) rfl ?_
      refine zq_get rfl (zh_0 _) rfl rfl rfl ?_
      refine zq_get rfl (zh_38 _) rfl rfl rfl ?_
      refine zr_many 1 (pc' := 61) (L' := [some (.ref 0), some (.int x1), some (.int x2), some (.int r12)]) (st' := [.long (s13.1 38 4).toInt64, .ref 3]) (S1 := zS c s13) rfl ?_
      obtain ⟨s16, g17, h⟩ := zp_inv h
      refine zq_call0 rfl rfl (zh_3 _) rfl rfl rfl ((tX5_tell g17).up (by decide)) rfl ?_
      refine zr_many 1 (pc' := 65) (L' := [some (.ref 0), some (.int x1), some (.int x2), some (.int r12)]) (st' := [.int r12]) (S1 := zS c s16) rfl ?_
      refine zq_if1 (b := 0 ≤ r12) rfl Iff.rfl rfl (fun g18 => ?_) (fun g18 => ?_)
      · rw [if_pos g18] at h
        refine zr_many 1 (pc' := 115) (L' := [some (.ref 0), some (.int x1), some (.int x2), some (.int r12)]) (st' := [.ref 0]) (S1 := zS c s16) rfl ?_
        refine zq_get rfl (zh_0 _) rfl rfl rfl ?_
        refine zr_many 1 (pc' := 119) (L' := [some (.ref 0), some (.int x1), some (.int x2), some (.int r12)]) (st' := [.ref 0, .ref 3]) (S1 := zS c s16) rfl ?_
        refine zq_get rfl (zh_0 _) rfl rfl rfl ?_
        refine zq_get rfl (zh_17 _) rfl rfl rfl ?_
        refine zr_many 1 (pc' := 126) (L' := [some (.ref 0), some (.int x1), some (.int x2), some (.int r12)]) (st' := [.ref 0, .int (s16.1 17 1), .ref 3]) (S1 := zS c s16) rfl ?_
        refine zq_get rfl (zh_0 _) rfl rfl rfl ?_
        refine zq_get rfl (zh_29 _) rfl rfl rfl ?_
        refine zr_many 2 (pc' := 134) (L' := [some (.ref 0), some (.int x1), some (.int x2), some (.int r12)]) (st' := [.long ((s16.1 17 1) - (s16.1 29 1)).toInt64, .ref 3]) (S1 := zS c s16) rfl ?_
        obtain ⟨s20, g21, h⟩ := zp_inv h
        refine zq_call0 rfl rfl (zh_3 _) rfl rfl rfl ((tX5_add g21).up (by decide)) rfl ?_
        refine zr_many 1 (pc' := 138) (L' := [some (.ref 0), some (.int x1), some (.int x2), some (.int r12)]) (st' := [.ref 0]) (S1 := zS c s20) rfl ?_
        refine zq_get rfl (zh_0 _) rfl rfl rfl ?_
        refine zr_many 1 (pc' := 142) (L' := [some (.ref 0), some (.int x1), some (.int x2), some (.int r12)]) (st' := [.ref 0, .ref 3]) (S1 := zS c s20) rfl ?_
        refine zq_get rfl (zh_0 _) rfl rfl rfl ?_
        refine zr_many 1 (pc' := 146) (L' := [some (.ref 0), some (.int x1), some (.int x2), some (.int r12)]) (st' := [.ref 0, .ref 5, .ref 3]) (S1 := zS c s20) rfl ?_
        refine zq_get rfl (zh_0 _) rfl rfl rfl ?_
        refine zr_many 1 (pc' := 150) (L' := [some (.ref 0), some (.int x1), some (.int x2), some (.int r12)]) (st' := [.ref 0, .ref 29, .ref 5, .ref 3]) (S1 := zS c s20) rfl ?_
        refine zq_get rfl (zh_0 _) rfl rfl rfl ?_
        refine zr_many 1 (pc' := 154) (L' := [some (.ref 0), some (.int x1), some (.int x2), some (.int r12)]) (st' := [.ref 0, .ref 5, .ref 29, .ref 5, .ref 3]) (S1 := zS c s20) rfl ?_
        refine zq_get rfl (zh_0 _) rfl rfl rfl ?_
        refine zr_many 1 (pc' := 158) (L' := [some (.ref 0), some (.int x1), some (.int x2), some (.int r12)]) (st' := [.int x1, .ref 29, .ref 5, .ref 29, .ref 5, .ref 3]) (S1 := zS c s20) rfl ?_
        obtain ⟨r22, g24, h⟩ := zp_inv h
        refine zq_call1 rfl rfl (zh_5 _) rfl rfl rfl ((tX0_crewOf zM_29 g24).up (by decide)) rfl ?_
        obtain ⟨r25, g27, h⟩ := zp_inv h
        refine zq_call1 rfl rfl (zh_5 _) rfl rfl rfl ((tX0_tiredOf zM_29 g27).up (by decide)) rfl ?_
        refine zr_many 1 (pc' := 165) (L' := [some (.ref 0), some (.int x1), some (.int x2), some (.int r12)]) (st' := [.long r25.toInt64, .ref 3]) (S1 := zS c s20) rfl ?_
        obtain ⟨s29, g30, h⟩ := zp_inv h
        refine zq_call0 rfl rfl (zh_3 _) rfl rfl rfl ((tX5_add g30).up (by decide)) rfl ?_
        refine zr_many 1 (pc' := 169) (L' := [some (.ref 0), some (.int x1), some (.int x2), some (.int r12)]) (st' := [.ref 0]) (S1 := zS c s29) rfl ?_
        refine zq_get rfl (zh_0 _) rfl rfl rfl ?_
        refine zq_get rfl (zh_29 _) rfl rfl rfl ?_
        refine zr_many 1 (pc' := 176) (L' := [some (.ref 0), some (.int x1), some (.int x2), some (.int r12)]) (st' := [.ref 0, .int (s29.1 29 2)]) (S1 := zS c s29) rfl ?_
        refine zq_get rfl (zh_0 _) rfl rfl rfl ?_
        refine zq_get rfl (zh_17 _) rfl rfl rfl ?_
        refine zr_many 1 (pc' := 183) (L' := [some (.ref 0), some (.int x1), some (.int x2), some (.int r12)]) (st' := [.int ((s29.1 29 2) - (s29.1 17 2))]) (S1 := zS c s29) rfl ?_
        obtain ⟨rfl, rfl⟩ := Prod.mk.inj (Option.some.inj h)
        exact zq_iret rfl
      · rw [if_neg g18] at h
        refine zr_many 1 (pc' := 69) (L' := [some (.ref 0), some (.int x1), some (.int x2), some (.int r12)]) (st' := [.ref 0]) (S1 := zS c s16) rfl ?_
        refine zq_get rfl (zh_0 _) rfl rfl rfl ?_
        refine zr_many 1 (pc' := 73) (L' := [some (.ref 0), some (.int x1), some (.int x2), some (.int r12)]) (st' := [.ref 0, .ref 3]) (S1 := zS c s16) rfl ?_
        refine zq_get rfl (zh_0 _) rfl rfl rfl ?_
        refine zr_many 1 (pc' := 77) (L' := [some (.ref 0), some (.int x1), some (.int x2), some (.int r12)]) (st' := [.ref 0, .ref 38, .ref 3]) (S1 := zS c s16) rfl ?_
        refine zq_get rfl (zh_0 _) rfl rfl rfl ?_
        refine zr_many 2 (pc' := 82) (L' := [some (.ref 0), some (.int x1), some (.int x2), some (.int r12)]) (st' := [.ref 0, .int x1, .ref 29, .ref 38, .ref 3]) (S1 := zS c s16) rfl ?_
        refine zq_get rfl (zh_0 _) rfl rfl rfl ?_
        refine zr_many 1 (pc' := 86) (L' := [some (.ref 0), some (.int x1), some (.int x2), some (.int r12)]) (st' := [.ref 0, .ref 38, .int x1, .ref 29, .ref 38, .ref 3]) (S1 := zS c s16) rfl ?_
        refine zq_get rfl (zh_0 _) rfl rfl rfl ?_
        refine zr_many 2 (pc' := 91) (L' := [some (.ref 0), some (.int x1), some (.int x2), some (.int r12)]) (st' := [.int x2, .int x1, .ref 29, .ref 38, .int x1, .ref 29, .ref 38, .ref 3]) (S1 := zS c s16) rfl ?_
        obtain ⟨r31, g33, h⟩ := zp_inv h
        refine zq_call1 rfl rfl (zh_38 _) rfl rfl rfl ((tX9_way zM_29 g33).up (by decide)) rfl ?_
        obtain ⟨r34, g36, h⟩ := zp_inv h
        refine zq_call1 rfl rfl (zh_38 _) rfl rfl rfl ((tX9_lockAhead zM_29 g36).up (by decide)) rfl ?_
        refine zr_many 1 (pc' := 98) (L' := [some (.ref 0), some (.int x1), some (.int x2), some (.int r12)]) (st' := [.long r34.toInt64, .ref 3]) (S1 := zS c s16) rfl ?_
        obtain ⟨s38, g39, h⟩ := zp_inv h
        refine zq_call0 rfl rfl (zh_3 _) rfl rfl rfl ((tX5_add g39).up (by decide)) rfl ?_
        refine zr_many 1 (pc' := 102) (L' := [some (.ref 0), some (.int x1), some (.int x2), some (.int r12)]) (st' := [.ref 0]) (S1 := zS c s38) rfl ?_
        refine zq_get rfl (zh_0 _) rfl rfl rfl ?_
        refine zr_many 3 (pc' := 108) (L' := [some (.ref 0), some (.int x1), some (.int x2), some (.int r12)]) (st' := [.long (-r12).toInt64, .ref 3]) (S1 := zS c s38) rfl ?_
        obtain ⟨s41, g42, h⟩ := zp_inv h
        refine zq_call0 rfl rfl (zh_3 _) rfl rfl rfl ((tX5_add g42).up (by decide)) rfl ?_
        refine zr_many 1 (pc' := 113) (L' := [some (.ref 0), some (.int x1), some (.int x2), some (.int r12)]) (st' := [.int (-2 : Int32)]) (S1 := zS c s41) rfl ?_
        obtain ⟨rfl, rfl⟩ := Prod.mk.inj (Option.some.inj h)
        exact zq_iret rfl
    · rw [if_neg g8] at h
      exact zr_wk [none, none, none, none] trivial (tX11_journey_J22 h)
def fX11_hires_J22 (n : Nat) (s : zs) : Option (Int32 × zs) := some ((-1 : Int32), s)
theorem tX11_hires_J22 {n : Nat} {c : Nat × Nat} {s : zs} {r : Int32} {s' : zs} (h : fX11_hires_J22 n s = some (r, s')) : zr kX11_hires 1 4 22 [none, none, none, none, none, none, none, none] [] (zS c s) (some (.int r)) (zS c s') := by
  unfold fX11_hires_J22 at h
  refine zr_many 1 (pc' := 23) (L' := [none, none, none, none, none, none, none, none]) (st' := [.int (-1 : Int32)]) (S1 := zS c s) rfl ?_
  obtain ⟨rfl, rfl⟩ := Prod.mk.inj (Option.some.inj h)
  exact zq_iret rfl
def fX11_hires_J149 (n : Nat) (s : zs) (x2 : Int32) (x3 : Int32) (x5 : Int32) (x6 : Int32) (x7 : Int32) (y0 : Int32) (y1 : Int32) : Option ((Int32 × Int32 × Int32 × zs) ⊕ (Int32 × zs)) := some (Sum.inl ((y0 + y1), x6, (x7 + (1 : Int32)), s))
theorem tX11_hires_J149 {n : Nat} {c : Nat × Nat} {s : zs} {x2 : Int32} {x3 : Int32} {x5 : Int32} {x6 : Int32} {x7 : Int32} {y0 : Int32} {y1 : Int32} {o : _} {v : Option Value} {S' : zi_S} (h : fX11_hires_J149 n s x2 x3 x5 x6 x7 y0 y1 = some o) (hn : ∀ w76, o = Sum.inl w76 → zr kX11_hires 1 4 76 [some (.ref 0), none, some (.int x2), some (.int x3), some (.int w76.1), some (.int x5), some (.int w76.2.1), some (.int w76.2.2.1)] [] (zS c w76.2.2.2) v S') (hx : ∀ z, o = Sum.inr z → (fun z => zr kX11_hires 1 4 158 [some (.ref 0), none, none, none, none, none, some (.int z.1), none] [] (zS c z.2) v S') z) : zr kX11_hires 1 4 149 [some (.ref 0), none, some (.int x2), some (.int x3), none, some (.int x5), some (.int x6), some (.int x7)] [.int y1, .int y0] (zS c s) v S' := by
  unfold fX11_hires_J149 at h
  refine zr_many 4 (pc' := 76) (L' := [some (.ref 0), none, some (.int x2), some (.int x3), some (.int (y0 + y1)), some (.int x5), some (.int x6), some (.int (x7 + (1 : Int32)))]) (st' := []) (S1 := zS c s) rfl ?_
  obtain rfl := Option.some.inj h
  exact zr_wk [some (.ref 0), none, some (.int x2), some (.int x3), some (.int (y0 + y1)), some (.int x5), some (.int x6), some (.int (x7 + (1 : Int32)))] ⟨rfl, rfl, rfl, rfl, rfl, rfl, rfl, trivial⟩ (hn ((y0 + y1), x6, (x7 + (1 : Int32)), s) rfl)
def fX11_hires_J130 (n : Nat) (s : zs) (x2 : Int32) (x3 : Int32) (x4 : Int32) (x5 : Int32) (x6 : Int32) (x7 : Int32) (y2 : Int32) : Option ((Int32 × Int32 × Int32 × zs) ⊕ (Int32 × zs)) := zp (fX2_mustSing n s 17 y2 x3 x6) (fun s26 => if ¬ x5 = (1 : Int32) then fX11_hires_J149 n s26 x2 x3 x5 x6 x7 x4 (-1 : Int32) else fX11_hires_J149 n s26 x2 x3 x5 x6 x7 x4 (1 : Int32))
theorem tX11_hires_J130 {n : Nat} {c : Nat × Nat} {s : zs} {x2 : Int32} {x3 : Int32} {x4 : Int32} {x5 : Int32} {x6 : Int32} {x7 : Int32} {y2 : Int32} {o : _} {v : Option Value} {S' : zi_S} (h : fX11_hires_J130 n s x2 x3 x4 x5 x6 x7 y2 = some o) (hn : ∀ w76, o = Sum.inl w76 → zr kX11_hires 1 4 76 [some (.ref 0), none, some (.int x2), some (.int x3), some (.int w76.1), some (.int x5), some (.int w76.2.1), some (.int w76.2.2.1)] [] (zS c w76.2.2.2) v S') (hx : ∀ z, o = Sum.inr z → (fun z => zr kX11_hires 1 4 158 [some (.ref 0), none, none, none, none, none, some (.int z.1), none] [] (zS c z.2) v S') z) : zr kX11_hires 1 4 130 [some (.ref 0), none, some (.int x2), some (.int x3), some (.int x4), some (.int x5), some (.int x6), some (.int x7)] [.int y2, .ref 17, .ref 41] (zS c s) v S' := by
  unfold fX11_hires_J130 at h
  refine zr_many 2 (pc' := 133) (L' := [some (.ref 0), none, some (.int x2), some (.int x3), some (.int x4), some (.int x5), some (.int x6), some (.int x7)]) (st' := [.int x6, .int x3, .int y2, .ref 17, .ref 41]) (S1 := zS c s) rfl ?_
  obtain ⟨s26, g27, h⟩ := zp_inv h
  refine zq_call0 rfl rfl (zh_41 _) rfl rfl rfl (tX2_mustSing zM_17 g27) rfl ?_
  refine zr_many 3 (pc' := 141) (L' := [some (.ref 0), none, some (.int x2), some (.int x3), some (.int x4), some (.int x5), some (.int x6), some (.int x7)]) (st' := [.int (1 : Int32), .int x5, .int x4]) (S1 := zS c s26) rfl ?_
  refine zq_if2 (b := ¬ x5 = (1 : Int32)) rfl Iff.rfl rfl (fun g28 => ?_) (fun g28 => ?_)
  · rw [if_pos g28] at h
    refine zr_many 1 (pc' := 149) (L' := [some (.ref 0), none, some (.int x2), some (.int x3), some (.int x4), some (.int x5), some (.int x6), some (.int x7)]) (st' := [.int (-1 : Int32), .int x4]) (S1 := zS c s26) rfl ?_
    exact zr_wk [some (.ref 0), none, some (.int x2), some (.int x3), none, some (.int x5), some (.int x6), some (.int x7)] ⟨rfl, rfl, rfl, rfl, rfl, rfl, trivial⟩ (tX11_hires_J149 h hn hx)
  · rw [if_neg g28] at h
    refine zr_many 2 (pc' := 149) (L' := [some (.ref 0), none, some (.int x2), some (.int x3), some (.int x4), some (.int x5), some (.int x6), some (.int x7)]) (st' := [.int (1 : Int32), .int x4]) (S1 := zS c s26) rfl ?_
    exact zr_wk [some (.ref 0), none, some (.int x2), some (.int x3), none, some (.int x5), some (.int x6), some (.int x7)] ⟨rfl, rfl, rfl, rfl, rfl, rfl, trivial⟩ (tX11_hires_J149 h hn hx)
def fX11_hires_B76 (n : Nat) (x2 : Int32) (x3 : Int32) (x5 : Int32) (w76 : Int32 × Int32 × Int32 × zs) : Option ((Int32 × Int32 × Int32 × zs) ⊕ (Int32 × zs)) := if (8 : Int32) ≤ w76.2.2.1 then some (Sum.inr (w76.2.1, w76.2.2.2)) else if w76.1 = x2 then some (Sum.inr (w76.2.1, w76.2.2.2)) else zp (fX0_freeAt n w76.2.2.2 17 w76.1) (fun r21 => if ¬ x5 = (1 : Int32) then fX11_hires_J130 n w76.2.2.2 x2 x3 w76.1 x5 (w76.2.1 ||| r21) w76.2.2.1 (w76.1 - (1 : Int32)) else fX11_hires_J130 n w76.2.2.2 x2 x3 w76.1 x5 (w76.2.1 ||| r21) w76.2.2.1 w76.1)
theorem tX11_hires_B76 {n : Nat} {c : Nat × Nat} {x2 : Int32} {x3 : Int32} {x5 : Int32} {w76 : Int32 × Int32 × Int32 × zs} {o : _} {v : Option Value} {S' : zi_S} (h : fX11_hires_B76 n x2 x3 x5 w76 = some o) (hn : ∀ w76, o = Sum.inl w76 → zr kX11_hires 1 4 76 [some (.ref 0), none, some (.int x2), some (.int x3), some (.int w76.1), some (.int x5), some (.int w76.2.1), some (.int w76.2.2.1)] [] (zS c w76.2.2.2) v S') (hx : ∀ z, o = Sum.inr z → (fun z => zr kX11_hires 1 4 158 [some (.ref 0), none, none, none, none, none, some (.int z.1), none] [] (zS c z.2) v S') z) : zr kX11_hires 1 4 76 [some (.ref 0), none, some (.int x2), some (.int x3), some (.int w76.1), some (.int x5), some (.int w76.2.1), some (.int w76.2.2.1)] [] (zS c w76.2.2.2) v S' := by
  unfold fX11_hires_B76 at h
  refine zr_many 2 (pc' := 80) (L' := [some (.ref 0), none, some (.int x2), some (.int x3), some (.int w76.1), some (.int x5), some (.int w76.2.1), some (.int w76.2.2.1)]) (st' := [.int (8 : Int32), .int w76.2.2.1]) (S1 := zS c w76.2.2.2) rfl ?_
  refine zq_if2 (b := (8 : Int32) ≤ w76.2.2.1) rfl Iff.rfl rfl (fun g19 => ?_) (fun g19 => ?_)
  · rw [if_pos g19] at h
    obtain rfl := Option.some.inj h
    exact zr_wk [some (.ref 0), none, none, none, none, none, some (.int w76.2.1), none] ⟨rfl, rfl, trivial⟩ (hx (w76.2.1, w76.2.2.2) rfl)
  · rw [if_neg g19] at h
    refine zr_many 2 (pc' := 86) (L' := [some (.ref 0), none, some (.int x2), some (.int x3), some (.int w76.1), some (.int x5), some (.int w76.2.1), some (.int w76.2.2.1)]) (st' := [.int x2, .int w76.1]) (S1 := zS c w76.2.2.2) rfl ?_
    refine zq_if2 (b := w76.1 = x2) rfl Iff.rfl rfl (fun g20 => ?_) (fun g20 => ?_)
    · rw [if_pos g20] at h
      obtain rfl := Option.some.inj h
      exact zr_wk [some (.ref 0), none, none, none, none, none, some (.int w76.2.1), none] ⟨rfl, rfl, trivial⟩ (hx (w76.2.1, w76.2.2.2) rfl)
    · rw [if_neg g20] at h
      refine zr_many 2 (pc' := 92) (L' := [some (.ref 0), none, some (.int x2), some (.int x3), some (.int w76.1), some (.int x5), some (.int w76.2.1), some (.int w76.2.2.1)]) (st' := [.ref 0, .int w76.2.1]) (S1 := zS c w76.2.2.2) rfl ?_
      refine zq_get rfl (zh_0 _) rfl rfl rfl ?_
      refine zr_many 1 (pc' := 96) (L' := [some (.ref 0), none, some (.int x2), some (.int x3), some (.int w76.1), some (.int x5), some (.int w76.2.1), some (.int w76.2.2.1)]) (st' := [.ref 0, .ref 5, .int w76.2.1]) (S1 := zS c w76.2.2.2) rfl ?_
      refine zq_get rfl (zh_0 _) rfl rfl rfl ?_
      refine zr_many 1 (pc' := 101) (L' := [some (.ref 0), none, some (.int x2), some (.int x3), some (.int w76.1), some (.int x5), some (.int w76.2.1), some (.int w76.2.2.1)]) (st' := [.int w76.1, .ref 17, .ref 5, .int w76.2.1]) (S1 := zS c w76.2.2.2) rfl ?_
      obtain ⟨r21, g23, h⟩ := zp_inv h
      refine zq_call1 rfl rfl (zh_5 _) rfl rfl rfl ((tX0_freeAt zM_17 g23).up (by decide)) rfl ?_
      refine zr_many 3 (pc' := 108) (L' := [some (.ref 0), none, some (.int x2), some (.int x3), some (.int w76.1), some (.int x5), some (.int (w76.2.1 ||| r21)), some (.int w76.2.2.1)]) (st' := [.ref 0]) (S1 := zS c w76.2.2.2) rfl ?_
      refine zq_get rfl (zh_0 _) rfl rfl rfl ?_
      refine zr_many 1 (pc' := 112) (L' := [some (.ref 0), none, some (.int x2), some (.int x3), some (.int w76.1), some (.int x5), some (.int (w76.2.1 ||| r21)), some (.int w76.2.2.1)]) (st' := [.ref 0, .ref 41]) (S1 := zS c w76.2.2.2) rfl ?_
      refine zq_get rfl (zh_0 _) rfl rfl rfl ?_
      refine zr_many 2 (pc' := 118) (L' := [some (.ref 0), none, some (.int x2), some (.int x3), some (.int w76.1), some (.int x5), some (.int (w76.2.1 ||| r21)), some (.int w76.2.2.1)]) (st' := [.int (1 : Int32), .int x5, .ref 17, .ref 41]) (S1 := zS c w76.2.2.2) rfl ?_
      refine zq_if2 (b := ¬ x5 = (1 : Int32)) rfl Iff.rfl rfl (fun g24 => ?_) (fun g24 => ?_)
      · rw [if_pos g24] at h
        refine zr_many 3 (pc' := 130) (L' := [some (.ref 0), none, some (.int x2), some (.int x3), some (.int w76.1), some (.int x5), some (.int (w76.2.1 ||| r21)), some (.int w76.2.2.1)]) (st' := [.int (w76.1 - (1 : Int32)), .ref 17, .ref 41]) (S1 := zS c w76.2.2.2) rfl ?_
        exact zr_wk [some (.ref 0), none, some (.int x2), some (.int x3), some (.int w76.1), some (.int x5), some (.int (w76.2.1 ||| r21)), some (.int w76.2.2.1)] ⟨rfl, rfl, rfl, rfl, rfl, rfl, rfl, trivial⟩ (tX11_hires_J130 h hn hx)
      · rw [if_neg g24] at h
        refine zr_many 2 (pc' := 130) (L' := [some (.ref 0), none, some (.int x2), some (.int x3), some (.int w76.1), some (.int x5), some (.int (w76.2.1 ||| r21)), some (.int w76.2.2.1)]) (st' := [.int w76.1, .ref 17, .ref 41]) (S1 := zS c w76.2.2.2) rfl ?_
        exact zr_wk [some (.ref 0), none, some (.int x2), some (.int x3), some (.int w76.1), some (.int x5), some (.int (w76.2.1 ||| r21)), some (.int w76.2.2.1)] ⟨rfl, rfl, rfl, rfl, rfl, rfl, rfl, trivial⟩ (tX11_hires_J130 h hn hx)
def fX11_hires_J158 (n : Nat) (s : zs) (x6 : Int32) : Option (Int32 × zs) := zp (fX2_cheapest n s x6) (fun r30 => zb (fX11_tellHired n s r30) (fun r33 s34 => some (r33, s34)))
theorem tX11_hires_J158 {n : Nat} {c : Nat × Nat} {s : zs} {x6 : Int32} {r : Int32} {s' : zs} (h : fX11_hires_J158 n s x6 = some (r, s')) : zr kX11_hires 1 4 158 [some (.ref 0), none, none, none, none, none, some (.int x6), none] [] (zS c s) (some (.int r)) (zS c s') := by
  unfold fX11_hires_J158 at h
  refine zr_many 2 (pc' := 160) (L' := [some (.ref 0), none, none, none, none, none, some (.int x6), none]) (st' := [.ref 0, .ref 0]) (S1 := zS c s) rfl ?_
  refine zq_get rfl (zh_0 _) rfl rfl rfl ?_
  refine zr_many 1 (pc' := 165) (L' := [some (.ref 0), none, none, none, none, none, some (.int x6), none]) (st' := [.int x6, .ref 41, .ref 0]) (S1 := zS c s) rfl ?_
  obtain ⟨r30, g32, h⟩ := zp_inv h
  refine zq_call1 rfl rfl (zh_41 _) rfl rfl rfl ((tX2_cheapest g32).up (by decide)) rfl ?_
  obtain ⟨r33, s34, g35, h⟩ := zb_inv h
  refine zq_call1 rfl rfl (zh_0 _) rfl rfl rfl ((tX11_tellHired g35).up (by decide)) rfl ?_
  obtain ⟨rfl, rfl⟩ := Prod.mk.inj (Option.some.inj h)
  exact zq_iret rfl
def fX11_hires (n : Nat) (s : zs) (x1 : Int32) (x2 : Int32) : Option (Int32 × zs) := zp (fX0_hasBarge n s x1) (fun r1 => if r1 = 0 then fX11_hires_J22 n s else zp (fX0_hasPlace n s x2) (fun r5 => if ¬ r5 = 0 then zp (fX0_crewOf n s 17 x1) (fun r9 => cond (zi_in x1 4) (zp (fX9_way n s 17 x1 x2) (fun r13 => zp (fX2_begin n s) (fun s17 => zp (zl (fX11_hires_B76 n x2 r9 r13) n ((s.1 21 x1.toNatClampNeg), (0 : Int32), (0 : Int32), s17)) (fun w29 => fX11_hires_J158 n w29.2 w29.1)))) none) else fX11_hires_J22 n s))
theorem tX11_hires {n : Nat} {c : Nat × Nat} {s : zs} {x1 : Int32} {x2 : Int32} {r : Int32} {s' : zs} (h : fX11_hires n s x1 x2 = some (r, s')) : zc 5 2237 [.ref 0, .int x1, .int x2] (zS c s) (some (.int r)) (zS c s') := by
  refine zc_of (k := kX11_hires) (rt := 1) (L := [some (.ref 0), some (.int x1), some (.int x2), none, none, none, none, none]) zm_2237.1 rfl rfl (by decide) rfl rfl ?_
  unfold fX11_hires at h
  refine zr_many 1 (pc' := 1) (L' := [some (.ref 0), some (.int x1), some (.int x2), none, none, none, none, none]) (st' := [.ref 0]) (S1 := zS c s) rfl ?_
  refine zq_get rfl (zh_0 _) rfl rfl rfl ?_
  refine zr_many 1 (pc' := 5) (L' := [some (.ref 0), some (.int x1), some (.int x2), none, none, none, none, none]) (st' := [.int x1, .ref 5]) (S1 := zS c s) rfl ?_
  obtain ⟨r1, g3, h⟩ := zp_inv h
  refine zq_call1 rfl rfl (zh_5 _) rfl rfl rfl ((tX0_hasBarge g3).up (by decide)) rfl ?_
  refine zq_if1 (b := r1 = 0) rfl Iff.rfl rfl (fun g4 => ?_) (fun g4 => ?_)
  · rw [if_pos g4] at h
    exact zr_wk [none, none, none, none, none, none, none, none] trivial (tX11_hires_J22 h)
  · rw [if_neg g4] at h
    refine zr_many 1 (pc' := 12) (L' := [some (.ref 0), some (.int x1), some (.int x2), none, none, none, none, none]) (st' := [.ref 0]) (S1 := zS c s) rfl ?_
    refine zq_get rfl (zh_0 _) rfl rfl rfl ?_
    refine zr_many 1 (pc' := 16) (L' := [some (.ref 0), some (.int x1), some (.int x2), none, none, none, none, none]) (st' := [.int x2, .ref 5]) (S1 := zS c s) rfl ?_
    obtain ⟨r5, g7, h⟩ := zp_inv h
    refine zq_call1 rfl rfl (zh_5 _) rfl rfl rfl ((tX0_hasPlace g7).up (by decide)) rfl ?_
    refine zq_if1 (b := ¬ r5 = 0) rfl Iff.rfl rfl (fun g8 => ?_) (fun g8 => ?_)
    · rw [if_pos g8] at h
      refine zr_many 1 (pc' := 25) (L' := [some (.ref 0), some (.int x1), some (.int x2), none, none, none, none, none]) (st' := [.ref 0]) (S1 := zS c s) rfl ?_
      refine zq_get rfl (zh_0 _) rfl rfl rfl ?_
      refine zr_many 1 (pc' := 29) (L' := [some (.ref 0), some (.int x1), some (.int x2), none, none, none, none, none]) (st' := [.ref 0, .ref 5]) (S1 := zS c s) rfl ?_
      refine zq_get rfl (zh_0 _) rfl rfl rfl ?_
      refine zr_many 1 (pc' := 33) (L' := [some (.ref 0), some (.int x1), some (.int x2), none, none, none, none, none]) (st' := [.int x1, .ref 17, .ref 5]) (S1 := zS c s) rfl ?_
      obtain ⟨r9, g11, h⟩ := zp_inv h
      refine zq_call1 rfl rfl (zh_5 _) rfl rfl rfl ((tX0_crewOf zM_17 g11).up (by decide)) rfl ?_
      refine zr_many 2 (pc' := 38) (L' := [some (.ref 0), some (.int x1), some (.int x2), some (.int r9), none, none, none, none]) (st' := [.ref 0]) (S1 := zS c s) rfl ?_
      refine zq_get rfl (zh_0 _) rfl rfl rfl ?_
      refine zq_get rfl (zh_17 _) rfl rfl rfl ?_
      refine zr_many 1 (pc' := 45) (L' := [some (.ref 0), some (.int x1), some (.int x2), some (.int r9), none, none, none, none]) (st' := [.int x1, .ref 21]) (S1 := zS c s) rfl ?_
      obtain ⟨g12, h⟩ := zi_cond_inv h
      refine zq_ild rfl (zh_21 _) rfl g12 rfl ?_
      refine zr_many 2 (pc' := 49) (L' := [some (.ref 0), some (.int x1), some (.int x2), some (.int r9), some (.int (s.1 21 x1.toNatClampNeg)), none, none, none]) (st' := [.ref 0]) (S1 := zS c s) rfl ?_
      refine zq_get rfl (zh_0 _) rfl rfl rfl ?_
      refine zr_many 1 (pc' := 53) (L' := [some (.ref 0), some (.int x1), some (.int x2), some (.int r9), some (.int (s.1 21 x1.toNatClampNeg)), none, none, none]) (st' := [.ref 0, .ref 38]) (S1 := zS c s) rfl ?_
      refine zq_get rfl (zh_0 _) rfl rfl rfl ?_
      refine zr_many 2 (pc' := 58) (L' := [some (.ref 0), some (.int x1), some (.int x2), some (.int r9), some (.int (s.1 21 x1.toNatClampNeg)), none, none, none]) (st' := [.int x2, .int x1, .ref 17, .ref 38]) (S1 := zS c s) rfl ?_
      obtain ⟨r13, g15, h⟩ := zp_inv h
      refine zq_call1 rfl rfl (zh_38 _) rfl rfl rfl ((tX9_way zM_17 g15).up (by decide)) rfl ?_
      refine zr_many 4 (pc' := 67) (L' := [some (.ref 0), some (.int x1), some (.int x2), some (.int r9), some (.int (s.1 21 x1.toNatClampNeg)), some (.int r13), some (.int (0 : Int32)), none]) (st' := [.ref 0]) (S1 := zS c s) rfl ?_
      refine zq_get rfl (zh_0 _) rfl rfl rfl ?_
      obtain ⟨s17, g18, h⟩ := zp_inv h
      refine zq_call0 rfl rfl (zh_41 _) rfl rfl rfl ((tX2_begin g18).up (by decide)) rfl ?_
      refine zr_many 2 (pc' := 76) (L' := [some (.ref 0), some (.int x1), some (.int x2), some (.int r9), some (.int (s.1 21 x1.toNatClampNeg)), some (.int r13), some (.int (0 : Int32)), some (.int (0 : Int32))]) (st' := []) (S1 := zS c s17) rfl ?_
      obtain ⟨w29, g36, h⟩ := zp_inv h
      refine zr_wk [some (.ref 0), none, some (.int x2), some (.int r9), some (.int (s.1 21 x1.toNatClampNeg)), some (.int r13), some (.int (0 : Int32)), some (.int (0 : Int32))] ⟨rfl, rfl, rfl, rfl, rfl, rfl, rfl, trivial⟩ (zl_cert (Z := fun w76 => zr kX11_hires 1 4 76 [some (.ref 0), none, some (.int x2), some (.int r9), some (.int w76.1), some (.int r13), some (.int w76.2.1), some (.int w76.2.2.1)] [] (zS c w76.2.2.2) _ _) (Y := (fun z => zr kX11_hires 1 4 158 [some (.ref 0), none, none, none, none, none, some (.int z.1), none] [] (zS c z.2) _ _)) (fun w o h1 h2 h3 => tX11_hires_B76 h1 h2 h3) n _ _ g36 ?_)
      show zr kX11_hires 1 4 158 [some (.ref 0), none, none, none, none, none, some (.int w29.1), none] [] (zS c w29.2) _ _
      exact zr_wk [some (.ref 0), none, none, none, none, none, some (.int w29.1), none] ⟨rfl, rfl, trivial⟩ (tX11_hires_J158 h)
    · rw [if_neg g8] at h
      exact zr_wk [none, none, none, none, none, none, none, none] trivial (tX11_hires_J22 h)
def fX11_rested_J22 (n : Nat) (s : zs) : Option (Int32 × zs) := some ((-1 : Int32), s)
theorem tX11_rested_J22 {n : Nat} {c : Nat × Nat} {s : zs} {r : Int32} {s' : zs} (h : fX11_rested_J22 n s = some (r, s')) : zr kX11_rested 1 9 22 [none, none, none, none, none] [] (zS c s) (some (.int r)) (zS c s') := by
  unfold fX11_rested_J22 at h
  refine zr_many 1 (pc' := 23) (L' := [none, none, none, none, none]) (st' := [.int (-1 : Int32)]) (S1 := zS c s) rfl ?_
  obtain ⟨rfl, rfl⟩ := Prod.mk.inj (Option.some.inj h)
  exact zq_iret rfl
def fX11_rested_B26 (n : Nat) (x1 : Int32) (x2 : Int32) (w26 : Int32 × zs) : Option ((Int32 × zs) ⊕ ((Int32 × Int32 × zs) ⊕ (zs))) := if (90 : Int32) < w26.1 then some (Sum.inr (Sum.inr w26.2)) else zp (fX3_copy n w26.2 29 17) (fun s11 => zp (fX3_letGoBy n s11 29 w26.1) (fun s14 => zb (fX9_travel n s14 29 x1 x2) (fun r16 s17 => if r16 < 0 then some (Sum.inl ((w26.1 + (10 : Int32)), s17)) else some (Sum.inr (Sum.inl (w26.1, (s14.1 29 2), s17))))))
theorem tX11_rested_B26 {n : Nat} {c : Nat × Nat} {x1 : Int32} {x2 : Int32} {w26 : Int32 × zs} {o : _} {v : Option Value} {S' : zi_S} (h : fX11_rested_B26 n x1 x2 w26 = some o) (hn : ∀ w26, o = Sum.inl w26 → zr kX11_rested 1 9 26 [some (.ref 0), some (.int x1), some (.int x2), some (.int w26.1), none] [] (zS c w26.2) v S') (hx : ∀ z, o = Sum.inr z → (Sum.elim (fun z => zr kX11_rested 1 9 76 [some (.ref 0), none, none, some (.int z.1), some (.int z.2.1)] [] (zS c z.2.2) v S') (fun z => zr kX11_rested 1 9 102 [none, none, none, none, none] [] (zS c z) v S')) z) : zr kX11_rested 1 9 26 [some (.ref 0), some (.int x1), some (.int x2), some (.int w26.1), none] [] (zS c w26.2) v S' := by
  unfold fX11_rested_B26 at h
  refine zr_many 2 (pc' := 29) (L' := [some (.ref 0), some (.int x1), some (.int x2), some (.int w26.1), none]) (st' := [.int (90 : Int32), .int w26.1]) (S1 := zS c w26.2) rfl ?_
  refine zq_if2 (b := (90 : Int32) < w26.1) rfl Iff.rfl rfl (fun g9 => ?_) (fun g9 => ?_)
  · rw [if_pos g9] at h
    obtain rfl := Option.some.inj h
    exact zr_wk [none, none, none, none, none] trivial (hx (Sum.inr w26.2) rfl)
  · rw [if_neg g9] at h
    refine zr_many 1 (pc' := 33) (L' := [some (.ref 0), some (.int x1), some (.int x2), some (.int w26.1), none]) (st' := [.ref 0]) (S1 := zS c w26.2) rfl ?_
    refine zq_get rfl (zh_0 _) rfl rfl rfl ?_
    refine zr_many 1 (pc' := 37) (L' := [some (.ref 0), some (.int x1), some (.int x2), some (.int w26.1), none]) (st' := [.ref 0, .ref 29]) (S1 := zS c w26.2) rfl ?_
    refine zq_get rfl (zh_0 _) rfl rfl rfl ?_
    obtain ⟨s11, g12, h⟩ := zp_inv h
    refine zq_call0 rfl rfl (zh_29 _) rfl rfl rfl ((tX3_copy zM_29 zM_17 g12).up (by decide)) rfl ?_
    refine zr_many 1 (pc' := 44) (L' := [some (.ref 0), some (.int x1), some (.int x2), some (.int w26.1), none]) (st' := [.ref 0]) (S1 := zS c s11) rfl ?_
    refine zq_get rfl (zh_0 _) rfl rfl rfl ?_
    refine zr_many 1 (pc' := 48) (L' := [some (.ref 0), some (.int x1), some (.int x2), some (.int w26.1), none]) (st' := [.int w26.1, .ref 29]) (S1 := zS c s11) rfl ?_
    obtain ⟨s14, g15, h⟩ := zp_inv h
    refine zq_call0 rfl rfl (zh_29 _) rfl rfl rfl ((tX3_letGoBy zM_29 g15).up (by decide)) rfl ?_
    refine zr_many 1 (pc' := 52) (L' := [some (.ref 0), some (.int x1), some (.int x2), some (.int w26.1), none]) (st' := [.ref 0]) (S1 := zS c s14) rfl ?_
    refine zq_get rfl (zh_0 _) rfl rfl rfl ?_
    refine zq_get rfl (zh_29 _) rfl rfl rfl ?_
    refine zr_many 2 (pc' := 61) (L' := [some (.ref 0), some (.int x1), some (.int x2), some (.int w26.1), some (.int (s14.1 29 2))]) (st' := [.ref 0]) (S1 := zS c s14) rfl ?_
    refine zq_get rfl (zh_0 _) rfl rfl rfl ?_
    refine zr_many 1 (pc' := 65) (L' := [some (.ref 0), some (.int x1), some (.int x2), some (.int w26.1), some (.int (s14.1 29 2))]) (st' := [.ref 0, .ref 38]) (S1 := zS c s14) rfl ?_
    refine zq_get rfl (zh_0 _) rfl rfl rfl ?_
    refine zr_many 2 (pc' := 70) (L' := [some (.ref 0), some (.int x1), some (.int x2), some (.int w26.1), some (.int (s14.1 29 2))]) (st' := [.int x2, .int x1, .ref 29, .ref 38]) (S1 := zS c s14) rfl ?_
    obtain ⟨r16, s17, g18, h⟩ := zb_inv h
    refine zq_call1 rfl rfl (zh_38 _) rfl rfl rfl (tX9_travel zM_29 g18) rfl ?_
    refine zq_if1 (b := r16 < 0) rfl Iff.rfl rfl (fun g19 => ?_) (fun g19 => ?_)
    · rw [if_pos g19] at h
      refine zr_many 2 (pc' := 26) (L' := [some (.ref 0), some (.int x1), some (.int x2), some (.int (w26.1 + (10 : Int32))), some (.int (s14.1 29 2))]) (st' := []) (S1 := zS c s17) rfl ?_
      obtain rfl := Option.some.inj h
      exact zr_wk [some (.ref 0), some (.int x1), some (.int x2), some (.int (w26.1 + (10 : Int32))), none] ⟨rfl, rfl, rfl, rfl, trivial⟩ (hn ((w26.1 + (10 : Int32)), s17) rfl)
    · rw [if_neg g19] at h
      obtain rfl := Option.some.inj h
      exact zr_wk [some (.ref 0), none, none, some (.int w26.1), some (.int (s14.1 29 2))] ⟨rfl, rfl, rfl, trivial⟩ (hx (Sum.inl (w26.1, (s14.1 29 2), s17)) rfl)
def fX11_rested (n : Nat) (s : zs) (x1 : Int32) (x2 : Int32) : Option (Int32 × zs) := zp (fX0_hasBarge n s x1) (fun r1 => if r1 = 0 then fX11_rested_J22 n s else zp (fX0_hasPlace n s x2) (fun r5 => if ¬ r5 = 0 then zp (zl (fX11_rested_B26 n x1 x2) n ((0 : Int32), s)) (Sum.elim (fun w20 => zp (fX5_tell n w20.2.2 (((w20.2.2.1 29 2) - w20.2.1).toInt64)) (fun s22 => some (w20.1, s22))) (fun w24 => some ((-2 : Int32), w24))) else fX11_rested_J22 n s))
theorem tX11_rested {n : Nat} {c : Nat × Nat} {s : zs} {x1 : Int32} {x2 : Int32} {r : Int32} {s' : zs} (h : fX11_rested n s x1 x2 = some (r, s')) : zc 10 2238 [.ref 0, .int x1, .int x2] (zS c s) (some (.int r)) (zS c s') := by
  refine zc_of (k := kX11_rested) (rt := 1) (L := [some (.ref 0), some (.int x1), some (.int x2), none, none]) zm_2238.1 rfl rfl (by decide) rfl rfl ?_
  unfold fX11_rested at h
  refine zr_many 1 (pc' := 1) (L' := [some (.ref 0), some (.int x1), some (.int x2), none, none]) (st' := [.ref 0]) (S1 := zS c s) rfl ?_
  refine zq_get rfl (zh_0 _) rfl rfl rfl ?_
  refine zr_many 1 (pc' := 5) (L' := [some (.ref 0), some (.int x1), some (.int x2), none, none]) (st' := [.int x1, .ref 5]) (S1 := zS c s) rfl ?_
  obtain ⟨r1, g3, h⟩ := zp_inv h
  refine zq_call1 rfl rfl (zh_5 _) rfl rfl rfl ((tX0_hasBarge g3).up (by decide)) rfl ?_
  refine zq_if1 (b := r1 = 0) rfl Iff.rfl rfl (fun g4 => ?_) (fun g4 => ?_)
  · rw [if_pos g4] at h
    exact zr_wk [none, none, none, none, none] trivial (tX11_rested_J22 h)
  · rw [if_neg g4] at h
    refine zr_many 1 (pc' := 12) (L' := [some (.ref 0), some (.int x1), some (.int x2), none, none]) (st' := [.ref 0]) (S1 := zS c s) rfl ?_
    refine zq_get rfl (zh_0 _) rfl rfl rfl ?_
    refine zr_many 1 (pc' := 16) (L' := [some (.ref 0), some (.int x1), some (.int x2), none, none]) (st' := [.int x2, .ref 5]) (S1 := zS c s) rfl ?_
    obtain ⟨r5, g7, h⟩ := zp_inv h
    refine zq_call1 rfl rfl (zh_5 _) rfl rfl rfl ((tX0_hasPlace g7).up (by decide)) rfl ?_
    refine zq_if1 (b := ¬ r5 = 0) rfl Iff.rfl rfl (fun g8 => ?_) (fun g8 => ?_)
    · rw [if_pos g8] at h
      refine zr_many 2 (pc' := 26) (L' := [some (.ref 0), some (.int x1), some (.int x2), some (.int (0 : Int32)), none]) (st' := []) (S1 := zS c s) rfl ?_
      obtain ⟨w26, g25, h⟩ := zp_inv h
      rcases w26 with w20 | w24
      · simp only [Sum.elim_inl, Sum.elim_inr] at h
        refine zr_wk [some (.ref 0), some (.int x1), some (.int x2), some (.int (0 : Int32)), none] ⟨rfl, rfl, rfl, rfl, trivial⟩ (zl_cert (Z := fun w26 => zr kX11_rested 1 9 26 [some (.ref 0), some (.int x1), some (.int x2), some (.int w26.1), none] [] (zS c w26.2) _ _) (Y := (Sum.elim (fun z => zr kX11_rested 1 9 76 [some (.ref 0), none, none, some (.int z.1), some (.int z.2.1)] [] (zS c z.2.2) _ _) (fun z => zr kX11_rested 1 9 102 [none, none, none, none, none] [] (zS c z) _ _))) (fun w o h1 h2 h3 => tX11_rested_B26 h1 h2 h3) n _ _ g25 ?_)
        show zr kX11_rested 1 9 76 [some (.ref 0), none, none, some (.int w20.1), some (.int w20.2.1)] [] (zS c w20.2.2) _ _
        refine zr_many 1 (pc' := 77) (L' := [some (.ref 0), none, none, some (.int w20.1), some (.int w20.2.1)]) (st' := [.ref 0]) (S1 := zS c w20.2.2) rfl ?_
        refine zq_get rfl (zh_0 _) rfl rfl rfl ?_
        refine zr_many 1 (pc' := 81) (L' := [some (.ref 0), none, none, some (.int w20.1), some (.int w20.2.1)]) (st' := [.ref 0, .ref 3]) (S1 := zS c w20.2.2) rfl ?_
        refine zq_get rfl (zh_0 _) rfl rfl rfl ?_
        refine zq_get rfl (zh_29 _) rfl rfl rfl ?_
        refine zr_many 3 (pc' := 91) (L' := [some (.ref 0), none, none, some (.int w20.1), some (.int w20.2.1)]) (st' := [.long ((w20.2.2.1 29 2) - w20.2.1).toInt64, .ref 3]) (S1 := zS c w20.2.2) rfl ?_
        obtain ⟨s22, g23, h⟩ := zp_inv h
        refine zq_call0 rfl rfl (zh_3 _) rfl rfl rfl ((tX5_tell g23).up (by decide)) rfl ?_
        refine zr_many 1 (pc' := 95) (L' := [some (.ref 0), none, none, some (.int w20.1), some (.int w20.2.1)]) (st' := [.int w20.1]) (S1 := zS c s22) rfl ?_
        obtain ⟨rfl, rfl⟩ := Prod.mk.inj (Option.some.inj h)
        exact zq_iret rfl
      · simp only [Sum.elim_inl, Sum.elim_inr] at h
        refine zr_wk [some (.ref 0), some (.int x1), some (.int x2), some (.int (0 : Int32)), none] ⟨rfl, rfl, rfl, rfl, trivial⟩ (zl_cert (Z := fun w26 => zr kX11_rested 1 9 26 [some (.ref 0), some (.int x1), some (.int x2), some (.int w26.1), none] [] (zS c w26.2) _ _) (Y := (Sum.elim (fun z => zr kX11_rested 1 9 76 [some (.ref 0), none, none, some (.int z.1), some (.int z.2.1)] [] (zS c z.2.2) _ _) (fun z => zr kX11_rested 1 9 102 [none, none, none, none, none] [] (zS c z) _ _))) (fun w o h1 h2 h3 => tX11_rested_B26 h1 h2 h3) n _ _ g25 ?_)
        show zr kX11_rested 1 9 102 [none, none, none, none, none] [] (zS c w24) _ _
        refine zr_many 1 (pc' := 104) (L' := [none, none, none, none, none]) (st' := [.int (-2 : Int32)]) (S1 := zS c w24) rfl ?_
        obtain ⟨rfl, rfl⟩ := Prod.mk.inj (Option.some.inj h)
        exact zq_iret rfl
    · rw [if_neg g8] at h
      exact zr_wk [none, none, none, none, none] trivial (tX11_rested_J22 h)
def fX11_queue_J68 (n : Nat) (s : zs) (y0 : Int32) : Option (Int32 × zs) := some (y0, s)
theorem tX11_queue_J68 {n : Nat} {c : Nat × Nat} {s : zs} {y0 : Int32} {r : Int32} {s' : zs} (h : fX11_queue_J68 n s y0 = some (r, s')) : zr kX11_queue 1 6 68 [none, none, none] [.int y0] (zS c s) (some (.int r)) (zS c s') := by
  unfold fX11_queue_J68 at h
  obtain ⟨rfl, rfl⟩ := Prod.mk.inj (Option.some.inj h)
  exact zq_iret rfl
def fX11_queue (n : Nat) (s : zs) (x1 : Int32) : Option (Int32 × zs) := zp (fX0_hasLock n s x1) (fun r1 => if ¬ r1 = 0 then zb (fX10_read n s) (fun r5 s6 => zp (fX8_clear n s6) (fun s9 => if 0 ≤ r5 then zp (fX3_levelOf n s9 17 x1) (fun r12 => zb (fX10_order n s9 r12) (fun r15 s16 => fX11_queue_J68 n s16 r15)) else fX11_queue_J68 n s9 (r5 - (1 : Int32)))) else zp (fX8_clear n s) (fun s19 => some ((-1 : Int32), s19)))
theorem tX11_queue {n : Nat} {c : Nat × Nat} {s : zs} {x1 : Int32} {r : Int32} {s' : zs} (h : fX11_queue n s x1 = some (r, s')) : zc 7 2239 [.ref 0, .int x1] (zS c s) (some (.int r)) (zS c s') := by
  refine zc_of (k := kX11_queue) (rt := 1) (L := [some (.ref 0), some (.int x1), none]) zm_2239.1 rfl rfl (by decide) rfl rfl ?_
  unfold fX11_queue at h
  refine zr_many 1 (pc' := 1) (L' := [some (.ref 0), some (.int x1), none]) (st' := [.ref 0]) (S1 := zS c s) rfl ?_
  refine zq_get rfl (zh_0 _) rfl rfl rfl ?_
  refine zr_many 1 (pc' := 5) (L' := [some (.ref 0), some (.int x1), none]) (st' := [.int x1, .ref 5]) (S1 := zS c s) rfl ?_
  obtain ⟨r1, g3, h⟩ := zp_inv h
  refine zq_call1 rfl rfl (zh_5 _) rfl rfl rfl ((tX0_hasLock g3).up (by decide)) rfl ?_
  refine zq_if1 (b := ¬ r1 = 0) rfl Iff.rfl rfl (fun g4 => ?_) (fun g4 => ?_)
  · rw [if_pos g4] at h
    refine zr_many 1 (pc' := 21) (L' := [some (.ref 0), some (.int x1), none]) (st' := [.ref 0]) (S1 := zS c s) rfl ?_
    refine zq_get rfl (zh_0 _) rfl rfl rfl ?_
    refine zr_many 1 (pc' := 25) (L' := [some (.ref 0), some (.int x1), none]) (st' := [.ref 0, .ref 45]) (S1 := zS c s) rfl ?_
    refine zq_get rfl (zh_0 _) rfl rfl rfl ?_
    obtain ⟨r5, s6, g7, h⟩ := zb_inv h
    refine zq_call1 rfl rfl (zh_45 _) rfl rfl rfl ((tX10_read g7).up (by decide)) rfl ?_
    refine zr_many 2 (pc' := 33) (L' := [some (.ref 0), some (.int x1), some (.int r5)]) (st' := [.ref 0]) (S1 := zS c s6) rfl ?_
    refine zq_get rfl (zh_0 _) rfl rfl rfl ?_
    obtain ⟨s9, g10, h⟩ := zp_inv h
    refine zq_call0 rfl rfl (zh_1 _) rfl rfl rfl ((tX8_clear g10).up (by decide)) rfl ?_
    refine zr_many 1 (pc' := 40) (L' := [some (.ref 0), some (.int x1), some (.int r5)]) (st' := [.int r5]) (S1 := zS c s9) rfl ?_
    refine zq_if1 (b := 0 ≤ r5) rfl Iff.rfl rfl (fun g11 => ?_) (fun g11 => ?_)
    · rw [if_pos g11] at h
      refine zr_many 1 (pc' := 50) (L' := [some (.ref 0), some (.int x1), some (.int r5)]) (st' := [.ref 0]) (S1 := zS c s9) rfl ?_
      refine zq_get rfl (zh_0 _) rfl rfl rfl ?_
      refine zr_many 1 (pc' := 54) (L' := [some (.ref 0), some (.int x1), some (.int r5)]) (st' := [.ref 0, .ref 45]) (S1 := zS c s9) rfl ?_
      refine zq_get rfl (zh_0 _) rfl rfl rfl ?_
      refine zr_many 1 (pc' := 58) (L' := [some (.ref 0), some (.int x1), some (.int r5)]) (st' := [.int x1, .ref 17, .ref 45]) (S1 := zS c s9) rfl ?_
      obtain ⟨r12, g14, h⟩ := zp_inv h
      refine zq_call1 rfl rfl (zh_17 _) rfl rfl rfl ((tX3_levelOf zM_17 g14).up (by decide)) rfl ?_
      refine zr_many 1 (pc' := 62) (L' := [some (.ref 0), some (.int x1), some (.int r5)]) (st' := [.ref 0, .int r12, .ref 45]) (S1 := zS c s9) rfl ?_
      refine zq_get rfl (zh_0 _) rfl rfl rfl ?_
      obtain ⟨r15, s16, g17, h⟩ := zb_inv h
      refine zq_call1 rfl rfl (zh_45 _) rfl rfl rfl (tX10_order g17) rfl ?_
      exact zr_wk [none, none, none] trivial (tX11_queue_J68 h)
    · rw [if_neg g11] at h
      refine zr_many 4 (pc' := 68) (L' := [some (.ref 0), some (.int x1), some (.int r5)]) (st' := [.int (r5 - (1 : Int32))]) (S1 := zS c s9) rfl ?_
      exact zr_wk [none, none, none] trivial (tX11_queue_J68 h)
  · rw [if_neg g4] at h
    refine zr_many 1 (pc' := 12) (L' := [some (.ref 0), some (.int x1), none]) (st' := [.ref 0]) (S1 := zS c s) rfl ?_
    refine zq_get rfl (zh_0 _) rfl rfl rfl ?_
    obtain ⟨s19, g20, h⟩ := zp_inv h
    refine zq_call0 rfl rfl (zh_1 _) rfl rfl rfl ((tX8_clear g20).up (by decide)) rfl ?_
    refine zr_many 1 (pc' := 19) (L' := [some (.ref 0), some (.int x1), none]) (st' := [.int (-1 : Int32)]) (S1 := zS c s19) rfl ?_
    obtain ⟨rfl, rfl⟩ := Prod.mk.inj (Option.some.inj h)
    exact zq_iret rfl
def fX11_jams_J73 (n : Nat) (s : zs) (x1 : Int32) (x2 : Int32) (x3 : Int32) (x4 : Int32) (x5 : Int32) : Option ((Int32 × Int32 × Int32 × Int32) ⊕ (Int32 × Int32 × Int32)) := some (Sum.inl (x1, x2, x3, (x5 + (1 : Int32))))
theorem tX11_jams_J73 {n : Nat} {c : Nat × Nat} {s : zs} {x1 : Int32} {x2 : Int32} {x3 : Int32} {x4 : Int32} {x5 : Int32} {o : _} {v : Option Value} {S' : zi_S} (h : fX11_jams_J73 n s x1 x2 x3 x4 x5 = some o) (hn : ∀ w33, o = Sum.inl w33 → zr kX11_jams 1 7 33 [some (.ref 0), some (.int w33.1), some (.int w33.2.1), some (.int w33.2.2.1), some (.int x4), some (.int w33.2.2.2), none] [] (zS c s) v S') (hx : ∀ z, o = Sum.inr z → (fun z => zr kX11_jams 1 7 79 [some (.ref 0), some (.int z.1), some (.int z.2.1), some (.int z.2.2), some (.int x4), none, none] [] (zS c s) v S') z) : zr kX11_jams 1 7 73 [some (.ref 0), some (.int x1), some (.int x2), some (.int x3), some (.int x4), some (.int x5), none] [] (zS c s) v S' := by
  unfold fX11_jams_J73 at h
  refine zr_many 2 (pc' := 33) (L' := [some (.ref 0), some (.int x1), some (.int x2), some (.int x3), some (.int x4), some (.int (x5 + (1 : Int32))), none]) (st' := []) (S1 := zS c s) rfl ?_
  obtain rfl := Option.some.inj h
  exact zr_wk [some (.ref 0), some (.int x1), some (.int x2), some (.int x3), some (.int x4), some (.int (x5 + (1 : Int32))), none] ⟨rfl, rfl, rfl, rfl, rfl, rfl, trivial⟩ (hn (x1, x2, x3, (x5 + (1 : Int32))) rfl)
def fX11_jams_B33 (n : Nat) (s : zs) (x4 : Int32) (w33 : Int32 × Int32 × Int32 × Int32) : Option ((Int32 × Int32 × Int32 × Int32) ⊕ (Int32 × Int32 × Int32)) := if (26 : Int32) ≤ w33.2.2.2 then some (Sum.inr (w33.1, w33.2.1, w33.2.2.1)) else zp (fX9_keptBy n s (((1 : Int32) <<< (x4 &&& 31)) ||| ((1 : Int32) <<< (w33.2.2.2 &&& 31)))) (fun r6 => if r6 ≤ w33.1 then fX11_jams_J73 n s w33.1 w33.2.1 w33.2.2.1 x4 w33.2.2.2 else fX11_jams_J73 n s r6 x4 w33.2.2.2 x4 w33.2.2.2)
theorem tX11_jams_B33 {n : Nat} {c : Nat × Nat} {s : zs} {x4 : Int32} {w33 : Int32 × Int32 × Int32 × Int32} {o : _} {v : Option Value} {S' : zi_S} (h : fX11_jams_B33 n s x4 w33 = some o) (hn : ∀ w33, o = Sum.inl w33 → zr kX11_jams 1 7 33 [some (.ref 0), some (.int w33.1), some (.int w33.2.1), some (.int w33.2.2.1), some (.int x4), some (.int w33.2.2.2), none] [] (zS c s) v S') (hx : ∀ z, o = Sum.inr z → (fun z => zr kX11_jams 1 7 79 [some (.ref 0), some (.int z.1), some (.int z.2.1), some (.int z.2.2), some (.int x4), none, none] [] (zS c s) v S') z) : zr kX11_jams 1 7 33 [some (.ref 0), some (.int w33.1), some (.int w33.2.1), some (.int w33.2.2.1), some (.int x4), some (.int w33.2.2.2), none] [] (zS c s) v S' := by
  unfold fX11_jams_B33 at h
  refine zr_many 2 (pc' := 37) (L' := [some (.ref 0), some (.int w33.1), some (.int w33.2.1), some (.int w33.2.2.1), some (.int x4), some (.int w33.2.2.2), none]) (st' := [.int (26 : Int32), .int w33.2.2.2]) (S1 := zS c s) rfl ?_
  refine zq_if2 (b := (26 : Int32) ≤ w33.2.2.2) rfl Iff.rfl rfl (fun g5 => ?_) (fun g5 => ?_)
  · rw [if_pos g5] at h
    obtain rfl := Option.some.inj h
    exact zr_wk [some (.ref 0), some (.int w33.1), some (.int w33.2.1), some (.int w33.2.2.1), some (.int x4), none, none] ⟨rfl, rfl, rfl, rfl, rfl, trivial⟩ (hx (w33.1, w33.2.1, w33.2.2.1) rfl)
  · rw [if_neg g5] at h
    refine zr_many 1 (pc' := 41) (L' := [some (.ref 0), some (.int w33.1), some (.int w33.2.1), some (.int w33.2.2.1), some (.int x4), some (.int w33.2.2.2), none]) (st' := [.ref 0]) (S1 := zS c s) rfl ?_
    refine zq_get rfl (zh_0 _) rfl rfl rfl ?_
    refine zr_many 7 (pc' := 53) (L' := [some (.ref 0), some (.int w33.1), some (.int w33.2.1), some (.int w33.2.2.1), some (.int x4), some (.int w33.2.2.2), none]) (st' := [.int (((1 : Int32) <<< (x4 &&& 31)) ||| ((1 : Int32) <<< (w33.2.2.2 &&& 31))), .ref 38]) (S1 := zS c s) rfl ?_
    obtain ⟨r6, g8, h⟩ := zp_inv h
    refine zq_call1 rfl rfl (zh_38 _) rfl rfl rfl ((tX9_keptBy g8).up (by decide)) rfl ?_
    refine zr_many 3 (pc' := 61) (L' := [some (.ref 0), some (.int w33.1), some (.int w33.2.1), some (.int w33.2.2.1), some (.int x4), some (.int w33.2.2.2), some (.int r6)]) (st' := [.int w33.1, .int r6]) (S1 := zS c s) rfl ?_
    refine zq_if2 (b := r6 ≤ w33.1) rfl Iff.rfl rfl (fun g9 => ?_) (fun g9 => ?_)
    · rw [if_pos g9] at h
      exact zr_wk [some (.ref 0), some (.int w33.1), some (.int w33.2.1), some (.int w33.2.2.1), some (.int x4), some (.int w33.2.2.2), none] ⟨rfl, rfl, rfl, rfl, rfl, rfl, trivial⟩ (tX11_jams_J73 h hn hx)
    · rw [if_neg g9] at h
      refine zr_many 6 (pc' := 73) (L' := [some (.ref 0), some (.int r6), some (.int x4), some (.int w33.2.2.2), some (.int x4), some (.int w33.2.2.2), some (.int r6)]) (st' := []) (S1 := zS c s) rfl ?_
      exact zr_wk [some (.ref 0), some (.int r6), some (.int x4), some (.int w33.2.2.2), some (.int x4), some (.int w33.2.2.2), none] ⟨rfl, rfl, rfl, rfl, rfl, rfl, trivial⟩ (tX11_jams_J73 h hn hx)
def fX11_jams_B20 (n : Nat) (s : zs) (w20 : Int32 × Int32 × Int32 × Int32) : Option ((Int32 × Int32 × Int32 × Int32) ⊕ (Int32 × Int32 × Int32)) := if (26 : Int32) ≤ w20.2.2.2 then some (Sum.inr (w20.1, w20.2.1, w20.2.2.1)) else zp (zl (fX11_jams_B33 n s w20.2.2.2) n (w20.1, w20.2.1, w20.2.2.1, (w20.2.2.2 + (1 : Int32)))) (fun w10 => some (Sum.inl (w10.1, w10.2.1, w10.2.2, (w20.2.2.2 + (1 : Int32)))))
theorem tX11_jams_B20 {n : Nat} {c : Nat × Nat} {s : zs} {w20 : Int32 × Int32 × Int32 × Int32} {o : _} {v : Option Value} {S' : zi_S} (h : fX11_jams_B20 n s w20 = some o) (hn : ∀ w20, o = Sum.inl w20 → zr kX11_jams 1 7 20 [some (.ref 0), some (.int w20.1), some (.int w20.2.1), some (.int w20.2.2.1), some (.int w20.2.2.2), none, none] [] (zS c s) v S') (hx : ∀ z, o = Sum.inr z → (fun z => zr kX11_jams 1 7 85 [some (.ref 0), some (.int z.1), some (.int z.2.1), some (.int z.2.2), none, none, none] [] (zS c s) v S') z) : zr kX11_jams 1 7 20 [some (.ref 0), some (.int w20.1), some (.int w20.2.1), some (.int w20.2.2.1), some (.int w20.2.2.2), none, none] [] (zS c s) v S' := by
  unfold fX11_jams_B20 at h
  refine zr_many 2 (pc' := 24) (L' := [some (.ref 0), some (.int w20.1), some (.int w20.2.1), some (.int w20.2.2.1), some (.int w20.2.2.2), none, none]) (st' := [.int (26 : Int32), .int w20.2.2.2]) (S1 := zS c s) rfl ?_
  refine zq_if2 (b := (26 : Int32) ≤ w20.2.2.2) rfl Iff.rfl rfl (fun g4 => ?_) (fun g4 => ?_)
  · rw [if_pos g4] at h
    obtain rfl := Option.some.inj h
    exact zr_wk [some (.ref 0), some (.int w20.1), some (.int w20.2.1), some (.int w20.2.2.1), none, none, none] ⟨rfl, rfl, rfl, rfl, trivial⟩ (hx (w20.1, w20.2.1, w20.2.2.1) rfl)
  · rw [if_neg g4] at h
    refine zr_many 4 (pc' := 33) (L' := [some (.ref 0), some (.int w20.1), some (.int w20.2.1), some (.int w20.2.2.1), some (.int w20.2.2.2), some (.int (w20.2.2.2 + (1 : Int32))), none]) (st' := []) (S1 := zS c s) rfl ?_
    obtain ⟨w10, g11, h⟩ := zp_inv h
    refine zr_wk [some (.ref 0), some (.int w20.1), some (.int w20.2.1), some (.int w20.2.2.1), some (.int w20.2.2.2), some (.int (w20.2.2.2 + (1 : Int32))), none] ⟨rfl, rfl, rfl, rfl, rfl, rfl, trivial⟩ (zl_cert (Z := fun w33 => zr kX11_jams 1 7 33 [some (.ref 0), some (.int w33.1), some (.int w33.2.1), some (.int w33.2.2.1), some (.int w20.2.2.2), some (.int w33.2.2.2), none] [] (zS c s) _ _) (Y := (fun z => zr kX11_jams 1 7 79 [some (.ref 0), some (.int z.1), some (.int z.2.1), some (.int z.2.2), some (.int w20.2.2.2), none, none] [] (zS c s) _ _)) (fun w o h1 h2 h3 => tX11_jams_B33 h1 h2 h3) n _ _ g11 ?_)
    show zr kX11_jams 1 7 79 [some (.ref 0), some (.int w10.1), some (.int w10.2.1), some (.int w10.2.2), some (.int w20.2.2.2), none, none] [] (zS c s) _ _
    refine zr_many 2 (pc' := 20) (L' := [some (.ref 0), some (.int w10.1), some (.int w10.2.1), some (.int w10.2.2), some (.int (w20.2.2.2 + (1 : Int32))), none, none]) (st' := []) (S1 := zS c s) rfl ?_
    obtain rfl := Option.some.inj h
    exact zr_wk [some (.ref 0), some (.int w10.1), some (.int w10.2.1), some (.int w10.2.2), some (.int (w20.2.2.2 + (1 : Int32))), none, none] ⟨rfl, rfl, rfl, rfl, rfl, trivial⟩ (hn (w10.1, w10.2.1, w10.2.2, (w20.2.2.2 + (1 : Int32))) rfl)
def fX11_jams (n : Nat) (s : zs) : Option (Int32 × zs) := zp (fX9_findWays n s 17) (fun s2 => zp (zl (fX11_jams_B20 n s2) n ((-1 : Int32), (0 : Int32), (1 : Int32), (0 : Int32))) (fun w12 => zp (fX5_tell n s2 w12.2.1.toInt64) (fun s14 => zp (fX5_add n s14 w12.2.2.toInt64) (fun s17 => some (w12.1, s17)))))
theorem tX11_jams {n : Nat} {c : Nat × Nat} {s : zs} {r : Int32} {s' : zs} (h : fX11_jams n s = some (r, s')) : zc 8 2240 [.ref 0] (zS c s) (some (.int r)) (zS c s') := by
  refine zc_of (k := kX11_jams) (rt := 1) (L := [some (.ref 0), none, none, none, none, none, none]) zm_2240.1 rfl rfl (by decide) rfl rfl ?_
  unfold fX11_jams at h
  refine zr_many 7 (pc' := 7) (L' := [some (.ref 0), some (.int (-1 : Int32)), some (.int (0 : Int32)), some (.int (1 : Int32)), none, none, none]) (st' := [.ref 0]) (S1 := zS c s) rfl ?_
  refine zq_get rfl (zh_0 _) rfl rfl rfl ?_
  refine zr_many 1 (pc' := 11) (L' := [some (.ref 0), some (.int (-1 : Int32)), some (.int (0 : Int32)), some (.int (1 : Int32)), none, none, none]) (st' := [.ref 0, .ref 38]) (S1 := zS c s) rfl ?_
  refine zq_get rfl (zh_0 _) rfl rfl rfl ?_
  obtain ⟨s2, g3, h⟩ := zp_inv h
  refine zq_call0 rfl rfl (zh_38 _) rfl rfl rfl (tX9_findWays zM_17 g3) rfl ?_
  refine zr_many 2 (pc' := 20) (L' := [some (.ref 0), some (.int (-1 : Int32)), some (.int (0 : Int32)), some (.int (1 : Int32)), some (.int (0 : Int32)), none, none]) (st' := []) (S1 := zS c s2) rfl ?_
  obtain ⟨w12, g19, h⟩ := zp_inv h
  refine zr_wk [some (.ref 0), some (.int (-1 : Int32)), some (.int (0 : Int32)), some (.int (1 : Int32)), some (.int (0 : Int32)), none, none] ⟨rfl, rfl, rfl, rfl, rfl, trivial⟩ (zl_cert (Z := fun w20 => zr kX11_jams 1 7 20 [some (.ref 0), some (.int w20.1), some (.int w20.2.1), some (.int w20.2.2.1), some (.int w20.2.2.2), none, none] [] (zS c s2) _ _) (Y := (fun z => zr kX11_jams 1 7 85 [some (.ref 0), some (.int z.1), some (.int z.2.1), some (.int z.2.2), none, none, none] [] (zS c s2) _ _)) (fun w o h1 h2 h3 => tX11_jams_B20 h1 h2 h3) n _ _ g19 ?_)
  show zr kX11_jams 1 7 85 [some (.ref 0), some (.int w12.1), some (.int w12.2.1), some (.int w12.2.2), none, none, none] [] (zS c s2) _ _
  refine zr_many 1 (pc' := 86) (L' := [some (.ref 0), some (.int w12.1), some (.int w12.2.1), some (.int w12.2.2), none, none, none]) (st' := [.ref 0]) (S1 := zS c s2) rfl ?_
  refine zq_get rfl (zh_0 _) rfl rfl rfl ?_
  refine zr_many 2 (pc' := 91) (L' := [some (.ref 0), some (.int w12.1), some (.int w12.2.1), some (.int w12.2.2), none, none, none]) (st' := [.long w12.2.1.toInt64, .ref 3]) (S1 := zS c s2) rfl ?_
  obtain ⟨s14, g15, h⟩ := zp_inv h
  refine zq_call0 rfl rfl (zh_3 _) rfl rfl rfl ((tX5_tell g15).up (by decide)) rfl ?_
  refine zr_many 1 (pc' := 95) (L' := [some (.ref 0), some (.int w12.1), some (.int w12.2.1), some (.int w12.2.2), none, none, none]) (st' := [.ref 0]) (S1 := zS c s14) rfl ?_
  refine zq_get rfl (zh_0 _) rfl rfl rfl ?_
  refine zr_many 2 (pc' := 100) (L' := [some (.ref 0), some (.int w12.1), some (.int w12.2.1), some (.int w12.2.2), none, none, none]) (st' := [.long w12.2.2.toInt64, .ref 3]) (S1 := zS c s14) rfl ?_
  obtain ⟨s17, g18, h⟩ := zp_inv h
  refine zq_call0 rfl rfl (zh_3 _) rfl rfl rfl ((tX5_add g18).up (by decide)) rfl ?_
  refine zr_many 1 (pc' := 104) (L' := [some (.ref 0), some (.int w12.1), some (.int w12.2.1), some (.int w12.2.2), none, none, none]) (st' := [.int w12.1]) (S1 := zS c s17) rfl ?_
  obtain ⟨rfl, rfl⟩ := Prod.mk.inj (Option.some.inj h)
  exact zq_iret rfl
def fX11_heard_J19 (n : Nat) (s : zs) : Option (Int32 × zs) := some ((-1 : Int32), s)
theorem tX11_heard_J19 {n : Nat} {c : Nat × Nat} {s : zs} {r : Int32} {s' : zs} (h : fX11_heard_J19 n s = some (r, s')) : zr kX11_heard 1 1 19 [none, none, none] [] (zS c s) (some (.int r)) (zS c s') := by
  unfold fX11_heard_J19 at h
  refine zr_many 1 (pc' := 20) (L' := [none, none, none]) (st' := [.int (-1 : Int32)]) (S1 := zS c s) rfl ?_
  obtain ⟨rfl, rfl⟩ := Prod.mk.inj (Option.some.inj h)
  exact zq_iret rfl
def fX11_heard_J44 (n : Nat) (s : zs) (y0 : Int32) : Option (Int32 × zs) := some (y0, s)
theorem tX11_heard_J44 {n : Nat} {c : Nat × Nat} {s : zs} {y0 : Int32} {r : Int32} {s' : zs} (h : fX11_heard_J44 n s y0 = some (r, s')) : zr kX11_heard 1 1 44 [none, none, none] [.int y0] (zS c s) (some (.int r)) (zS c s') := by
  unfold fX11_heard_J44 at h
  obtain ⟨rfl, rfl⟩ := Prod.mk.inj (Option.some.inj h)
  exact zq_iret rfl
def fX11_heard (n : Nat) (s : zs) (x1 : Int32) (x2 : Int32) : Option (Int32 × zs) := if x1 < 0 then fX11_heard_J19 n s else if (26 : Int32) ≤ x1 then fX11_heard_J19 n s else if x2 < 0 then fX11_heard_J19 n s else if x2 ≤ (1 : Int32) then zb (fX4_note n s x1 x2) (fun r5 s6 => if r5 = 0 then fX11_heard_J44 n s6 (-1 : Int32) else zp (fX4_size n s6) (fun r9 => fX11_heard_J44 n s6 r9)) else fX11_heard_J19 n s
theorem tX11_heard {n : Nat} {c : Nat × Nat} {s : zs} {x1 : Int32} {x2 : Int32} {r : Int32} {s' : zs} (h : fX11_heard n s x1 x2 = some (r, s')) : zc 2 2241 [.ref 0, .int x1, .int x2] (zS c s) (some (.int r)) (zS c s') := by
  refine zc_of (k := kX11_heard) (rt := 1) (L := [some (.ref 0), some (.int x1), some (.int x2)]) zm_2241.1 rfl rfl (by decide) rfl rfl ?_
  unfold fX11_heard at h
  refine zr_many 1 (pc' := 1) (L' := [some (.ref 0), some (.int x1), some (.int x2)]) (st' := [.int x1]) (S1 := zS c s) rfl ?_
  refine zq_if1 (b := x1 < 0) rfl Iff.rfl rfl (fun g1 => ?_) (fun g1 => ?_)
  · rw [if_pos g1] at h
    exact zr_wk [none, none, none] trivial (tX11_heard_J19 h)
  · rw [if_neg g1] at h
    refine zr_many 2 (pc' := 7) (L' := [some (.ref 0), some (.int x1), some (.int x2)]) (st' := [.int (26 : Int32), .int x1]) (S1 := zS c s) rfl ?_
    refine zq_if2 (b := (26 : Int32) ≤ x1) rfl Iff.rfl rfl (fun g2 => ?_) (fun g2 => ?_)
    · rw [if_pos g2] at h
      exact zr_wk [none, none, none] trivial (tX11_heard_J19 h)
    · rw [if_neg g2] at h
      refine zr_many 1 (pc' := 11) (L' := [some (.ref 0), some (.int x1), some (.int x2)]) (st' := [.int x2]) (S1 := zS c s) rfl ?_
      refine zq_if1 (b := x2 < 0) rfl Iff.rfl rfl (fun g3 => ?_) (fun g3 => ?_)
      · rw [if_pos g3] at h
        exact zr_wk [none, none, none] trivial (tX11_heard_J19 h)
      · rw [if_neg g3] at h
        refine zr_many 2 (pc' := 16) (L' := [some (.ref 0), some (.int x1), some (.int x2)]) (st' := [.int (1 : Int32), .int x2]) (S1 := zS c s) rfl ?_
        refine zq_if2 (b := x2 ≤ (1 : Int32)) rfl Iff.rfl rfl (fun g4 => ?_) (fun g4 => ?_)
        · rw [if_pos g4] at h
          refine zr_many 1 (pc' := 22) (L' := [some (.ref 0), some (.int x1), some (.int x2)]) (st' := [.ref 0]) (S1 := zS c s) rfl ?_
          refine zq_get rfl (zh_0 _) rfl rfl rfl ?_
          refine zr_many 2 (pc' := 27) (L' := [some (.ref 0), some (.int x1), some (.int x2)]) (st' := [.int x2, .int x1, .ref 43]) (S1 := zS c s) rfl ?_
          obtain ⟨r5, s6, g7, h⟩ := zb_inv h
          refine zq_call1 rfl rfl (zh_43 _) rfl rfl rfl (tX4_note g7) rfl ?_
          refine zq_if1 (b := r5 = 0) rfl Iff.rfl rfl (fun g8 => ?_) (fun g8 => ?_)
          · rw [if_pos g8] at h
            refine zr_many 1 (pc' := 44) (L' := [some (.ref 0), some (.int x1), some (.int x2)]) (st' := [.int (-1 : Int32)]) (S1 := zS c s6) rfl ?_
            exact zr_wk [none, none, none] trivial (tX11_heard_J44 h)
          · rw [if_neg g8] at h
            refine zr_many 1 (pc' := 34) (L' := [some (.ref 0), some (.int x1), some (.int x2)]) (st' := [.ref 0]) (S1 := zS c s6) rfl ?_
            refine zq_get rfl (zh_0 _) rfl rfl rfl ?_
            obtain ⟨r9, g11, h⟩ := zp_inv h
            refine zq_call1 rfl rfl (zh_43 _) rfl rfl rfl (tX4_size g11) rfl ?_
            refine zr_many 1 (pc' := 44) (L' := [some (.ref 0), some (.int x1), some (.int x2)]) (st' := [.int r9]) (S1 := zS c s6) rfl ?_
            exact zr_wk [none, none, none] trivial (tX11_heard_J44 h)
        · rw [if_neg g4] at h
          exact zr_wk [none, none, none] trivial (tX11_heard_J19 h)
def fX11_forget (n : Nat) (s : zs) : Option (Int32 × zs) := zp (fX4_size n s) (fun r1 => zp (fX4_clear n s) (fun s5 => some (r1, s5)))
theorem tX11_forget {n : Nat} {c : Nat × Nat} {s : zs} {r : Int32} {s' : zs} (h : fX11_forget n s = some (r, s')) : zc 2 2242 [.ref 0] (zS c s) (some (.int r)) (zS c s') := by
  refine zc_of (k := kX11_forget) (rt := 1) (L := [some (.ref 0), none]) zm_2242.1 rfl rfl (by decide) rfl rfl ?_
  unfold fX11_forget at h
  refine zr_many 1 (pc' := 1) (L' := [some (.ref 0), none]) (st' := [.ref 0]) (S1 := zS c s) rfl ?_
  refine zq_get rfl (zh_0 _) rfl rfl rfl ?_
  obtain ⟨r1, g3, h⟩ := zp_inv h
  refine zq_call1 rfl rfl (zh_43 _) rfl rfl rfl (tX4_size g3) rfl ?_
  refine zr_many 2 (pc' := 9) (L' := [some (.ref 0), some (.int r1)]) (st' := [.ref 0]) (S1 := zS c s) rfl ?_
  refine zq_get rfl (zh_0 _) rfl rfl rfl ?_
  obtain ⟨s5, g6, h⟩ := zp_inv h
  refine zq_call0 rfl rfl (zh_43 _) rfl rfl rfl (tX4_clear g6) rfl ?_
  refine zr_many 1 (pc' := 16) (L' := [some (.ref 0), some (.int r1)]) (st' := [.int r1]) (S1 := zS c s5) rfl ?_
  obtain ⟨rfl, rfl⟩ := Prod.mk.inj (Option.some.inj h)
  exact zq_iret rfl
def fX11_who (n : Nat) (s : zs) : Option (Int32 × zs) := zp (fX4_fitting n s) (fun r1 => zp (fJ6_bitCount_0f7a4 n s r1) (fun r4 => zp (fX5_tell n s r4.toInt64) (fun s8 => some (r1, s8))))
theorem tX11_who {n : Nat} {c : Nat × Nat} {s : zs} {r : Int32} {s' : zs} (h : fX11_who n s = some (r, s')) : zc 3 2243 [.ref 0] (zS c s) (some (.int r)) (zS c s') := by
  refine zc_of (k := kX11_who) (rt := 1) (L := [some (.ref 0), none]) zm_2243.1 rfl rfl (by decide) rfl rfl ?_
  unfold fX11_who at h
  refine zr_many 1 (pc' := 1) (L' := [some (.ref 0), none]) (st' := [.ref 0]) (S1 := zS c s) rfl ?_
  refine zq_get rfl (zh_0 _) rfl rfl rfl ?_
  obtain ⟨r1, g3, h⟩ := zp_inv h
  refine zq_call1 rfl rfl (zh_43 _) rfl rfl rfl ((tX4_fitting g3).up (by decide)) rfl ?_
  refine zr_many 2 (pc' := 9) (L' := [some (.ref 0), some (.int r1)]) (st' := [.ref 0]) (S1 := zS c s) rfl ?_
  refine zq_get rfl (zh_0 _) rfl rfl rfl ?_
  refine zr_many 1 (pc' := 13) (L' := [some (.ref 0), some (.int r1)]) (st' := [.int r1, .ref 3]) (S1 := zS c s) rfl ?_
  obtain ⟨r4, g6, h⟩ := zp_inv h
  refine zq_scall1 rfl (by decide) rfl rfl ((tJ6_bitCount_0f7a4 g6).up (by decide)) rfl ?_
  refine zr_many 1 (pc' := 17) (L' := [some (.ref 0), some (.int r1)]) (st' := [.long r4.toInt64, .ref 3]) (S1 := zS c s) rfl ?_
  obtain ⟨s8, g9, h⟩ := zp_inv h
  refine zq_call0 rfl rfl (zh_3 _) rfl rfl rfl (tX5_tell g9) rfl ?_
  refine zr_many 1 (pc' := 21) (L' := [some (.ref 0), some (.int r1)]) (st' := [.int r1]) (S1 := zS c s8) rfl ?_
  obtain ⟨rfl, rfl⟩ := Prod.mk.inj (Option.some.inj h)
  exact zq_iret rfl
def fX11_listen_J54 (n : Nat) (s : zs) (x1 : Int32) (x2 : Int32) (x3 : Int32) (x4 : Int32) : Option ((Int32 × Int32 × Int32) ⊕ (Int32 × Int32)) := some (Sum.inl (x2, x3, (x4 + (1 : Int32))))
theorem tX11_listen_J54 {n : Nat} {c : Nat × Nat} {s : zs} {x1 : Int32} {x2 : Int32} {x3 : Int32} {x4 : Int32} {o : _} {v : Option Value} {S' : zi_S} (h : fX11_listen_J54 n s x1 x2 x3 x4 = some o) (hn : ∀ w23, o = Sum.inl w23 → zr kX11_listen 1 2 23 [some (.ref 0), some (.int x1), some (.int w23.1), some (.int w23.2.1), some (.int w23.2.2), none] [] (zS c s) v S') (hx : ∀ z, o = Sum.inr z → (fun z => zr kX11_listen 1 2 60 [some (.ref 0), none, some (.int z.1), some (.int z.2), none, none] [] (zS c s) v S') z) : zr kX11_listen 1 2 54 [some (.ref 0), some (.int x1), some (.int x2), some (.int x3), some (.int x4), none] [] (zS c s) v S' := by
  unfold fX11_listen_J54 at h
  refine zr_many 2 (pc' := 23) (L' := [some (.ref 0), some (.int x1), some (.int x2), some (.int x3), some (.int (x4 + (1 : Int32))), none]) (st' := []) (S1 := zS c s) rfl ?_
  obtain rfl := Option.some.inj h
  exact zr_wk [some (.ref 0), some (.int x1), some (.int x2), some (.int x3), some (.int (x4 + (1 : Int32))), none] ⟨rfl, rfl, rfl, rfl, rfl, trivial⟩ (hn (x2, x3, (x4 + (1 : Int32))) rfl)
def fX11_listen_B23 (n : Nat) (s : zs) (x1 : Int32) (w23 : Int32 × Int32 × Int32) : Option ((Int32 × Int32 × Int32) ⊕ (Int32 × Int32)) := if (26 : Int32) ≤ w23.2.2 then some (Sum.inr (w23.1, w23.2.1)) else zp (fX4_leftAtMost n s x1 w23.2.2) (fun r6 => if w23.2.1 ≤ r6 then fX11_listen_J54 n s x1 w23.1 w23.2.1 w23.2.2 else fX11_listen_J54 n s x1 w23.2.2 r6 w23.2.2)
theorem tX11_listen_B23 {n : Nat} {c : Nat × Nat} {s : zs} {x1 : Int32} {w23 : Int32 × Int32 × Int32} {o : _} {v : Option Value} {S' : zi_S} (h : fX11_listen_B23 n s x1 w23 = some o) (hn : ∀ w23, o = Sum.inl w23 → zr kX11_listen 1 2 23 [some (.ref 0), some (.int x1), some (.int w23.1), some (.int w23.2.1), some (.int w23.2.2), none] [] (zS c s) v S') (hx : ∀ z, o = Sum.inr z → (fun z => zr kX11_listen 1 2 60 [some (.ref 0), none, some (.int z.1), some (.int z.2), none, none] [] (zS c s) v S') z) : zr kX11_listen 1 2 23 [some (.ref 0), some (.int x1), some (.int w23.1), some (.int w23.2.1), some (.int w23.2.2), none] [] (zS c s) v S' := by
  unfold fX11_listen_B23 at h
  refine zr_many 2 (pc' := 27) (L' := [some (.ref 0), some (.int x1), some (.int w23.1), some (.int w23.2.1), some (.int w23.2.2), none]) (st' := [.int (26 : Int32), .int w23.2.2]) (S1 := zS c s) rfl ?_
  refine zq_if2 (b := (26 : Int32) ≤ w23.2.2) rfl Iff.rfl rfl (fun g5 => ?_) (fun g5 => ?_)
  · rw [if_pos g5] at h
    obtain rfl := Option.some.inj h
    exact zr_wk [some (.ref 0), none, some (.int w23.1), some (.int w23.2.1), none, none] ⟨rfl, rfl, rfl, trivial⟩ (hx (w23.1, w23.2.1) rfl)
  · rw [if_neg g5] at h
    refine zr_many 1 (pc' := 31) (L' := [some (.ref 0), some (.int x1), some (.int w23.1), some (.int w23.2.1), some (.int w23.2.2), none]) (st' := [.ref 0]) (S1 := zS c s) rfl ?_
    refine zq_get rfl (zh_0 _) rfl rfl rfl ?_
    refine zr_many 2 (pc' := 37) (L' := [some (.ref 0), some (.int x1), some (.int w23.1), some (.int w23.2.1), some (.int w23.2.2), none]) (st' := [.int w23.2.2, .int x1, .ref 43]) (S1 := zS c s) rfl ?_
    obtain ⟨r6, g8, h⟩ := zp_inv h
    refine zq_call1 rfl rfl (zh_43 _) rfl rfl rfl (tX4_leftAtMost g8) rfl ?_
    refine zr_many 3 (pc' := 45) (L' := [some (.ref 0), some (.int x1), some (.int w23.1), some (.int w23.2.1), some (.int w23.2.2), some (.int r6)]) (st' := [.int w23.2.1, .int r6]) (S1 := zS c s) rfl ?_
    refine zq_if2 (b := w23.2.1 ≤ r6) rfl Iff.rfl rfl (fun g9 => ?_) (fun g9 => ?_)
    · rw [if_pos g9] at h
      exact zr_wk [some (.ref 0), some (.int x1), some (.int w23.1), some (.int w23.2.1), some (.int w23.2.2), none] ⟨rfl, rfl, rfl, rfl, rfl, trivial⟩ (tX11_listen_J54 h hn hx)
    · rw [if_neg g9] at h
      refine zr_many 4 (pc' := 54) (L' := [some (.ref 0), some (.int x1), some (.int w23.2.2), some (.int r6), some (.int w23.2.2), some (.int r6)]) (st' := []) (S1 := zS c s) rfl ?_
      exact zr_wk [some (.ref 0), some (.int x1), some (.int w23.2.2), some (.int r6), some (.int w23.2.2), none] ⟨rfl, rfl, rfl, rfl, rfl, trivial⟩ (tX11_listen_J54 h hn hx)
def fX11_listen (n : Nat) (s : zs) : Option (Int32 × zs) := zp (fX4_fitting n s) (fun r1 => if ¬ r1 = 0 then zp (zl (fX11_listen_B23 n s r1) n ((0 : Int32), (9 : Int32), (0 : Int32))) (fun w10 => zp (fX5_tell n s w10.2.toInt64) (fun s12 => some (w10.1, s12))) else some ((-2 : Int32), s))
theorem tX11_listen {n : Nat} {c : Nat × Nat} {s : zs} {r : Int32} {s' : zs} (h : fX11_listen n s = some (r, s')) : zc 3 2244 [.ref 0] (zS c s) (some (.int r)) (zS c s') := by
  refine zc_of (k := kX11_listen) (rt := 1) (L := [some (.ref 0), none, none, none, none, none]) zm_2244.1 rfl rfl (by decide) rfl rfl ?_
  unfold fX11_listen at h
  refine zr_many 1 (pc' := 1) (L' := [some (.ref 0), none, none, none, none, none]) (st' := [.ref 0]) (S1 := zS c s) rfl ?_
  refine zq_get rfl (zh_0 _) rfl rfl rfl ?_
  obtain ⟨r1, g3, h⟩ := zp_inv h
  refine zq_call1 rfl rfl (zh_43 _) rfl rfl rfl ((tX4_fitting g3).up (by decide)) rfl ?_
  refine zr_many 2 (pc' := 9) (L' := [some (.ref 0), some (.int r1), none, none, none, none]) (st' := [.int r1]) (S1 := zS c s) rfl ?_
  refine zq_if1 (b := ¬ r1 = 0) rfl Iff.rfl rfl (fun g4 => ?_) (fun g4 => ?_)
  · rw [if_pos g4] at h
    refine zr_many 6 (pc' := 23) (L' := [some (.ref 0), some (.int r1), some (.int (0 : Int32)), some (.int (9 : Int32)), some (.int (0 : Int32)), none]) (st' := []) (S1 := zS c s) rfl ?_
    obtain ⟨w10, g14, h⟩ := zp_inv h
    refine zr_wk [some (.ref 0), some (.int r1), some (.int (0 : Int32)), some (.int (9 : Int32)), some (.int (0 : Int32)), none] ⟨rfl, rfl, rfl, rfl, rfl, trivial⟩ (zl_cert (Z := fun w23 => zr kX11_listen 1 2 23 [some (.ref 0), some (.int r1), some (.int w23.1), some (.int w23.2.1), some (.int w23.2.2), none] [] (zS c s) _ _) (Y := (fun z => zr kX11_listen 1 2 60 [some (.ref 0), none, some (.int z.1), some (.int z.2), none, none] [] (zS c s) _ _)) (fun w o h1 h2 h3 => tX11_listen_B23 h1 h2 h3) n _ _ g14 ?_)
    show zr kX11_listen 1 2 60 [some (.ref 0), none, some (.int w10.1), some (.int w10.2), none, none] [] (zS c s) _ _
    refine zr_many 1 (pc' := 61) (L' := [some (.ref 0), none, some (.int w10.1), some (.int w10.2), none, none]) (st' := [.ref 0]) (S1 := zS c s) rfl ?_
    refine zq_get rfl (zh_0 _) rfl rfl rfl ?_
    refine zr_many 2 (pc' := 66) (L' := [some (.ref 0), none, some (.int w10.1), some (.int w10.2), none, none]) (st' := [.long w10.2.toInt64, .ref 3]) (S1 := zS c s) rfl ?_
    obtain ⟨s12, g13, h⟩ := zp_inv h
    refine zq_call0 rfl rfl (zh_3 _) rfl rfl rfl (tX5_tell g13) rfl ?_
    refine zr_many 1 (pc' := 70) (L' := [some (.ref 0), none, some (.int w10.1), some (.int w10.2), none, none]) (st' := [.int w10.1]) (S1 := zS c s12) rfl ?_
    obtain ⟨rfl, rfl⟩ := Prod.mk.inj (Option.some.inj h)
    exact zq_iret rfl
  · rw [if_neg g4] at h
    refine zr_many 1 (pc' := 14) (L' := [some (.ref 0), some (.int r1), none, none, none, none]) (st' := [.int (-2 : Int32)]) (S1 := zS c s) rfl ?_
    obtain ⟨rfl, rfl⟩ := Prod.mk.inj (Option.some.inj h)
    exact zq_iret rfl
def fX11_parts (n : Nat) (s : zs) : Option (Int32 × zs) := zb (fX4_parting n s) (fun r1 s2 => if 0 ≤ r1 then zp (fX5_tell n s2 r1.toInt64) (fun s6 => zp (fJ6_bitCount_0f7a4 n s6 r1) (fun r8 => some (r8, s6))) else some ((-2 : Int32), s2))
theorem tX11_parts {n : Nat} {c : Nat × Nat} {s : zs} {r : Int32} {s' : zs} (h : fX11_parts n s = some (r, s')) : zc 8 2245 [.ref 0] (zS c s) (some (.int r)) (zS c s') := by
  refine zc_of (k := kX11_parts) (rt := 1) (L := [some (.ref 0), none]) zm_2245.1 rfl rfl (by decide) rfl rfl ?_
  unfold fX11_parts at h
  refine zr_many 1 (pc' := 1) (L' := [some (.ref 0), none]) (st' := [.ref 0]) (S1 := zS c s) rfl ?_
  refine zq_get rfl (zh_0 _) rfl rfl rfl ?_
  obtain ⟨r1, s2, g3, h⟩ := zb_inv h
  refine zq_call1 rfl rfl (zh_43 _) rfl rfl rfl (tX4_parting g3) rfl ?_
  refine zr_many 2 (pc' := 9) (L' := [some (.ref 0), some (.int r1)]) (st' := [.int r1]) (S1 := zS c s2) rfl ?_
  refine zq_if1 (b := 0 ≤ r1) rfl Iff.rfl rfl (fun g4 => ?_) (fun g4 => ?_)
  · rw [if_pos g4] at h
    refine zr_many 1 (pc' := 16) (L' := [some (.ref 0), some (.int r1)]) (st' := [.ref 0]) (S1 := zS c s2) rfl ?_
    refine zq_get rfl (zh_0 _) rfl rfl rfl ?_
    refine zr_many 2 (pc' := 21) (L' := [some (.ref 0), some (.int r1)]) (st' := [.long r1.toInt64, .ref 3]) (S1 := zS c s2) rfl ?_
    obtain ⟨s6, g7, h⟩ := zp_inv h
    refine zq_call0 rfl rfl (zh_3 _) rfl rfl rfl ((tX5_tell g7).up (by decide)) rfl ?_
    refine zr_many 1 (pc' := 25) (L' := [some (.ref 0), some (.int r1)]) (st' := [.int r1]) (S1 := zS c s6) rfl ?_
    obtain ⟨r8, g10, h⟩ := zp_inv h
    refine zq_scall1 rfl (by decide) rfl rfl ((tJ6_bitCount_0f7a4 g10).up (by decide)) rfl ?_
    obtain ⟨rfl, rfl⟩ := Prod.mk.inj (Option.some.inj h)
    exact zq_iret rfl
  · rw [if_neg g4] at h
    refine zr_many 1 (pc' := 14) (L' := [some (.ref 0), some (.int r1)]) (st' := [.int (-2 : Int32)]) (S1 := zS c s2) rfl ?_
    obtain ⟨rfl, rfl⟩ := Prod.mk.inj (Option.some.inj h)
    exact zq_iret rfl
def fX11_power_B5 (n : Nat) (s : zs) (x0 : Int64) (x2 : Int32) (w5 : Int64 × Int32) : Option ((Int64 × Int32) ⊕ (Int64)) := if x2 ≤ w5.2 then some (Sum.inr w5.1) else some (Sum.inl ((w5.1 * x0), (w5.2 + (1 : Int32))))
theorem tX11_power_B5 {n : Nat} {c : Nat × Nat} {s : zs} {x0 : Int64} {x2 : Int32} {w5 : Int64 × Int32} {o : _} {v : Option Value} {S' : zi_S} (h : fX11_power_B5 n s x0 x2 w5 = some o) (hn : ∀ w5, o = Sum.inl w5 → zr kX11_power 3 0 5 [some (.long x0), none, some (.int x2), some (.long w5.1), none, some (.int w5.2)] [] (zS c s) v S') (hx : ∀ z, o = Sum.inr z → (fun z => zr kX11_power 3 0 21 [none, none, none, some (.long z), none, none] [] (zS c s) v S') z) : zr kX11_power 3 0 5 [some (.long x0), none, some (.int x2), some (.long w5.1), none, some (.int w5.2)] [] (zS c s) v S' := by
  unfold fX11_power_B5 at h
  refine zr_many 2 (pc' := 8) (L' := [some (.long x0), none, some (.int x2), some (.long w5.1), none, some (.int w5.2)]) (st' := [.int x2, .int w5.2]) (S1 := zS c s) rfl ?_
  refine zq_if2 (b := x2 ≤ w5.2) rfl Iff.rfl rfl (fun g1 => ?_) (fun g1 => ?_)
  · rw [if_pos g1] at h
    obtain rfl := Option.some.inj h
    exact zr_wk [none, none, none, some (.long w5.1), none, none] ⟨rfl, trivial⟩ (hx w5.1 rfl)
  · rw [if_neg g1] at h
    refine zr_many 6 (pc' := 5) (L' := [some (.long x0), none, some (.int x2), some (.long (w5.1 * x0)), none, some (.int (w5.2 + (1 : Int32)))]) (st' := []) (S1 := zS c s) rfl ?_
    obtain rfl := Option.some.inj h
    exact zr_wk [some (.long x0), none, some (.int x2), some (.long (w5.1 * x0)), none, some (.int (w5.2 + (1 : Int32)))] ⟨rfl, rfl, rfl, rfl, trivial⟩ (hn ((w5.1 * x0), (w5.2 + (1 : Int32))) rfl)
def fX11_power (n : Nat) (s : zs) (x0 : Int64) (x2 : Int32) : Option Int64 := zp (zl (fX11_power_B5 n s x0 x2) n ((1 : Int64), (0 : Int32))) (fun w2 => some w2)
theorem tX11_power {n : Nat} {c : Nat × Nat} {s : zs} {x0 : Int64} {x2 : Int32} {r : Int64} (h : fX11_power n s x0 x2 = some r) : zc 1 2252 [.long x0, .int x2] (zS c s) (some (.long r)) (zS c s) := by
  refine zc_of (k := kX11_power) (rt := 3) (L := [some (.long x0), none, some (.int x2), none, none, none]) zm_2252.1 rfl rfl (by decide) rfl rfl ?_
  unfold fX11_power at h
  refine zr_many 4 (pc' := 5) (L' := [some (.long x0), none, some (.int x2), some (.long (1 : Int64)), none, some (.int (0 : Int32))]) (st' := []) (S1 := zS c s) rfl ?_
  obtain ⟨w2, g3, h⟩ := zp_inv h
  refine zr_wk [some (.long x0), none, some (.int x2), some (.long (1 : Int64)), none, some (.int (0 : Int32))] ⟨rfl, rfl, rfl, rfl, trivial⟩ (zl_cert (Z := fun w5 => zr kX11_power 3 0 5 [some (.long x0), none, some (.int x2), some (.long w5.1), none, some (.int w5.2)] [] (zS c s) _ _) (Y := (fun z => zr kX11_power 3 0 21 [none, none, none, some (.long z), none, none] [] (zS c s) _ _)) (fun w o h1 h2 h3 => tX11_power_B5 h1 h2 h3) n _ _ g3 ?_)
  show zr kX11_power 3 0 21 [none, none, none, some (.long w2), none, none] [] (zS c s) _ _
  refine zr_many 1 (pc' := 22) (L' := [none, none, none, some (.long w2), none, none]) (st' := [.long w2]) (S1 := zS c s) rfl ?_
  obtain rfl := Option.some.inj h
  exact zq_lret rfl
def fX11_chances (n : Nat) (s : zs) (x0 : Int32) (x1 : Int32) : Option Int64 := zp (fX11_power n s (((10 : Int32) - x1).toInt64) (4 : Int32)) (fun r1 => zp (fX11_power n s (10000 : Int64) x0) (fun r4 => zp (fX11_power n s ((10000 : Int64) - r1) x0) (fun r7 => some (r4 - r7))))
theorem tX11_chances {n : Nat} {c : Nat × Nat} {s : zs} {x0 : Int32} {x1 : Int32} {r : Int64} (h : fX11_chances n s x0 x1 = some r) : zc 2 2251 [.int x0, .int x1] (zS c s) (some (.long r)) (zS c s) := by
  refine zc_of (k := kX11_chances) (rt := 3) (L := [some (.int x0), some (.int x1), none, none]) zm_2251.1 rfl rfl (by decide) rfl rfl ?_
  unfold fX11_chances at h
  refine zr_many 5 (pc' := 6) (L' := [some (.int x0), some (.int x1), none, none]) (st' := [.int (4 : Int32), .long ((10 : Int32) - x1).toInt64]) (S1 := zS c s) rfl ?_
  obtain ⟨r1, g3, h⟩ := zp_inv h
  refine zq_scall1 rfl (by decide) rfl rfl (tX11_power g3) rfl ?_
  refine zr_many 3 (pc' := 14) (L' := [some (.int x0), some (.int x1), some (.long r1), none]) (st' := [.int x0, .long (10000 : Int64)]) (S1 := zS c s) rfl ?_
  obtain ⟨r4, g6, h⟩ := zp_inv h
  refine zq_scall1 rfl (by decide) rfl rfl (tX11_power g6) rfl ?_
  refine zr_many 4 (pc' := 23) (L' := [some (.int x0), some (.int x1), some (.long r1), none]) (st' := [.int x0, .long ((10000 : Int64) - r1), .long r4]) (S1 := zS c s) rfl ?_
  obtain ⟨r7, g9, h⟩ := zp_inv h
  refine zq_scall1 rfl (by decide) rfl rfl (tX11_power g9) rfl ?_
  refine zr_many 1 (pc' := 27) (L' := [some (.int x0), some (.int x1), some (.long r1), none]) (st' := [.long (r4 - r7)]) (S1 := zS c s) rfl ?_
  obtain rfl := Option.some.inj h
  exact zq_lret rfl
def fX11_commonDivisor_B3 (n : Nat) (s : zs) (w3 : Int64 × Int64 × Int32) : Option ((Int64 × Int64 × Int32) ⊕ (Int64)) := if (1000 : Int32) ≤ w3.2.2 then some (Sum.inr w3.1) else if (lg_cmp w3.2.1 (0 : Int64)) = 0 then some (Sum.inr w3.1) else if w3.2.1 = 0 then none else (some (Sum.inl (w3.2.1, (w3.1 - w3.1 / w3.2.1 * w3.2.1), (w3.2.2 + (1 : Int32)))))
theorem tX11_commonDivisor_B3 {n : Nat} {c : Nat × Nat} {s : zs} {w3 : Int64 × Int64 × Int32} {o : _} {v : Option Value} {S' : zi_S} (h : fX11_commonDivisor_B3 n s w3 = some o) (hn : ∀ w3, o = Sum.inl w3 → zr kX11_commonDivisor 3 0 3 [some (.long w3.1), none, some (.long w3.2.1), none, some (.int w3.2.2), none, none] [] (zS c s) v S') (hx : ∀ z, o = Sum.inr z → (fun z => zr kX11_commonDivisor 3 0 33 [some (.long z), none, none, none, none, none, none] [] (zS c s) v S') z) : zr kX11_commonDivisor 3 0 3 [some (.long w3.1), none, some (.long w3.2.1), none, some (.int w3.2.2), none, none] [] (zS c s) v S' := by
  unfold fX11_commonDivisor_B3 at h
  refine zr_many 2 (pc' := 8) (L' := [some (.long w3.1), none, some (.long w3.2.1), none, some (.int w3.2.2), none, none]) (st' := [.int (1000 : Int32), .int w3.2.2]) (S1 := zS c s) rfl ?_
  refine zq_if2 (b := (1000 : Int32) ≤ w3.2.2) rfl Iff.rfl rfl (fun g1 => ?_) (fun g1 => ?_)
  · rw [if_pos g1] at h
    obtain rfl := Option.some.inj h
    exact zr_wk [some (.long w3.1), none, none, none, none, none, none] ⟨rfl, trivial⟩ (hx w3.1 rfl)
  · rw [if_neg g1] at h
    refine zr_many 3 (pc' := 14) (L' := [some (.long w3.1), none, some (.long w3.2.1), none, some (.int w3.2.2), none, none]) (st' := [.int (lg_cmp w3.2.1 (0 : Int64))]) (S1 := zS c s) rfl ?_
    refine zq_if1 (b := (lg_cmp w3.2.1 (0 : Int64)) = 0) rfl Iff.rfl rfl (fun g2 => ?_) (fun g2 => ?_)
    · rw [if_pos g2] at h
      obtain rfl := Option.some.inj h
      exact zr_wk [some (.long w3.1), none, none, none, none, none, none] ⟨rfl, trivial⟩ (hx w3.1 rfl)
    · rw [if_neg g2] at h
      refine zr_many 2 (pc' := 19) (L' := [some (.long w3.1), none, some (.long w3.2.1), none, some (.int w3.2.2), none, none]) (st' := [.long w3.2.1, .long w3.1]) (S1 := zS c s) rfl ?_
      obtain ⟨g3, h⟩ := zn_inv h
      refine zq_lrem rfl g3 rfl ?_
      refine zr_many 7 (pc' := 3) (L' := [some (.long w3.2.1), none, some (.long (w3.1 - w3.1 / w3.2.1 * w3.2.1)), none, some (.int (w3.2.2 + (1 : Int32))), some (.long (w3.1 - w3.1 / w3.2.1 * w3.2.1)), none]) (st' := []) (S1 := zS c s) rfl ?_
      obtain rfl := Option.some.inj h
      exact zr_wk [some (.long w3.2.1), none, some (.long (w3.1 - w3.1 / w3.2.1 * w3.2.1)), none, some (.int (w3.2.2 + (1 : Int32))), none, none] ⟨rfl, rfl, rfl, trivial⟩ (hn (w3.2.1, (w3.1 - w3.1 / w3.2.1 * w3.2.1), (w3.2.2 + (1 : Int32))) rfl)
def fX11_commonDivisor_J33 (n : Nat) (s : zs) (x0 : Int64) : Option Int64 := some x0
theorem tX11_commonDivisor_J33 {n : Nat} {c : Nat × Nat} {s : zs} {x0 : Int64} {r : Int64} (h : fX11_commonDivisor_J33 n s x0 = some r) : zr kX11_commonDivisor 3 0 33 [some (.long x0), none, none, none, none, none, none] [] (zS c s) (some (.long r)) (zS c s) := by
  unfold fX11_commonDivisor_J33 at h
  refine zr_many 1 (pc' := 34) (L' := [some (.long x0), none, none, none, none, none, none]) (st' := [.long x0]) (S1 := zS c s) rfl ?_
  obtain rfl := Option.some.inj h
  exact zq_lret rfl
def fX11_commonDivisor (n : Nat) (s : zs) (x0 : Int64) (x2 : Int64) : Option Int64 := zp (zl (fX11_commonDivisor_B3 n s) n (x0, x2, (0 : Int32))) (fun w4 => fX11_commonDivisor_J33 n s w4)
theorem tX11_commonDivisor {n : Nat} {c : Nat × Nat} {s : zs} {x0 : Int64} {x2 : Int64} {r : Int64} (h : fX11_commonDivisor n s x0 x2 = some r) : zc 1 2253 [.long x0, .long x2] (zS c s) (some (.long r)) (zS c s) := by
  refine zc_of (k := kX11_commonDivisor) (rt := 3) (L := [some (.long x0), none, some (.long x2), none, none, none, none]) zm_2253.1 rfl rfl (by decide) rfl rfl ?_
  unfold fX11_commonDivisor at h
  refine zr_many 2 (pc' := 3) (L' := [some (.long x0), none, some (.long x2), none, some (.int (0 : Int32)), none, none]) (st' := []) (S1 := zS c s) rfl ?_
  obtain ⟨w4, g5, h⟩ := zp_inv h
  refine zr_wk [some (.long x0), none, some (.long x2), none, some (.int (0 : Int32)), none, none] ⟨rfl, rfl, rfl, trivial⟩ (zl_cert (Z := fun w3 => zr kX11_commonDivisor 3 0 3 [some (.long w3.1), none, some (.long w3.2.1), none, some (.int w3.2.2), none, none] [] (zS c s) _ _) (Y := (fun z => zr kX11_commonDivisor 3 0 33 [some (.long z), none, none, none, none, none, none] [] (zS c s) _ _)) (fun w o h1 h2 h3 => tX11_commonDivisor_B3 h1 h2 h3) n _ _ g5 ?_)
  show zr kX11_commonDivisor 3 0 33 [some (.long w4), none, none, none, none, none, none] [] (zS c s) _ _
  exact zr_wk [some (.long w4), none, none, none, none, none, none] ⟨rfl, trivial⟩ (tX11_commonDivisor_J33 h)
def fX11_opens_J20 (n : Nat) (s : zs) : Option (Int32 × zs) := some ((-1 : Int32), s)
theorem tX11_opens_J20 {n : Nat} {c : Nat × Nat} {s : zs} {r : Int32} {s' : zs} (h : fX11_opens_J20 n s = some (r, s')) : zr kX11_opens 1 2 20 [none, none, none, none, none, none, none, none, none] [] (zS c s) (some (.int r)) (zS c s') := by
  unfold fX11_opens_J20 at h
  refine zr_many 1 (pc' := 21) (L' := [none, none, none, none, none, none, none, none, none]) (st' := [.int (-1 : Int32)]) (S1 := zS c s) rfl ?_
  obtain ⟨rfl, rfl⟩ := Prod.mk.inj (Option.some.inj h)
  exact zq_iret rfl
def fX11_opens_J75 (n : Nat) (s : zs) : Option (Int32 × zs) := some ((0 : Int32), s)
theorem tX11_opens_J75 {n : Nat} {c : Nat × Nat} {s : zs} {r : Int32} {s' : zs} (h : fX11_opens_J75 n s = some (r, s')) : zr kX11_opens 1 2 75 [none, none, none, none, none, none, none, none, none] [] (zS c s) (some (.int r)) (zS c s') := by
  unfold fX11_opens_J75 at h
  refine zr_many 1 (pc' := 76) (L' := [none, none, none, none, none, none, none, none, none]) (st' := [.int (0 : Int32)]) (S1 := zS c s) rfl ?_
  obtain ⟨rfl, rfl⟩ := Prod.mk.inj (Option.some.inj h)
  exact zq_iret rfl
def fX11_opens (n : Nat) (s : zs) (x1 : Int32) (x2 : Int32) : Option (Int32 × zs) := if x1 < (1 : Int32) then fX11_opens_J20 n s else if (4 : Int32) < x1 then fX11_opens_J20 n s else if x2 < 0 then fX11_opens_J20 n s else if x2 ≤ (10 : Int32) then zp (fX11_chances n s x1 x2) (fun r5 => zp (fX11_power n s (10000 : Int64) x1) (fun r8 => zp (fX11_commonDivisor n s r5 r8) (fun r11 => if (lg_cmp r11 (0 : Int64)) ≤ 0 then fX11_opens_J75 n s else if r11 = 0 then none else (zp (fX5_tell n s (r5 / r11)) (fun s16 => if r11 = 0 then none else (zp (fX5_add n s16 (r8 / r11)) (fun s19 => fX11_opens_J75 n s19))))))) else fX11_opens_J20 n s
theorem tX11_opens {n : Nat} {c : Nat × Nat} {s : zs} {x1 : Int32} {x2 : Int32} {r : Int32} {s' : zs} (h : fX11_opens n s x1 x2 = some (r, s')) : zc 3 2246 [.ref 0, .int x1, .int x2] (zS c s) (some (.int r)) (zS c s') := by
  refine zc_of (k := kX11_opens) (rt := 1) (L := [some (.ref 0), some (.int x1), some (.int x2), none, none, none, none, none, none]) zm_2246.1 rfl rfl (by decide) rfl rfl ?_
  unfold fX11_opens at h
  refine zr_many 2 (pc' := 2) (L' := [some (.ref 0), some (.int x1), some (.int x2), none, none, none, none, none, none]) (st' := [.int (1 : Int32), .int x1]) (S1 := zS c s) rfl ?_
  refine zq_if2 (b := x1 < (1 : Int32)) rfl Iff.rfl rfl (fun g1 => ?_) (fun g1 => ?_)
  · rw [if_pos g1] at h
    exact zr_wk [none, none, none, none, none, none, none, none, none] trivial (tX11_opens_J20 h)
  · rw [if_neg g1] at h
    refine zr_many 2 (pc' := 7) (L' := [some (.ref 0), some (.int x1), some (.int x2), none, none, none, none, none, none]) (st' := [.int (4 : Int32), .int x1]) (S1 := zS c s) rfl ?_
    refine zq_if2 (b := (4 : Int32) < x1) rfl Iff.rfl rfl (fun g2 => ?_) (fun g2 => ?_)
    · rw [if_pos g2] at h
      exact zr_wk [none, none, none, none, none, none, none, none, none] trivial (tX11_opens_J20 h)
    · rw [if_neg g2] at h
      refine zr_many 1 (pc' := 11) (L' := [some (.ref 0), some (.int x1), some (.int x2), none, none, none, none, none, none]) (st' := [.int x2]) (S1 := zS c s) rfl ?_
      refine zq_if1 (b := x2 < 0) rfl Iff.rfl rfl (fun g3 => ?_) (fun g3 => ?_)
      · rw [if_pos g3] at h
        exact zr_wk [none, none, none, none, none, none, none, none, none] trivial (tX11_opens_J20 h)
      · rw [if_neg g3] at h
        refine zr_many 2 (pc' := 17) (L' := [some (.ref 0), some (.int x1), some (.int x2), none, none, none, none, none, none]) (st' := [.int (10 : Int32), .int x2]) (S1 := zS c s) rfl ?_
        refine zq_if2 (b := x2 ≤ (10 : Int32)) rfl Iff.rfl rfl (fun g4 => ?_) (fun g4 => ?_)
        · rw [if_pos g4] at h
          refine zr_many 2 (pc' := 24) (L' := [some (.ref 0), some (.int x1), some (.int x2), none, none, none, none, none, none]) (st' := [.int x2, .int x1]) (S1 := zS c s) rfl ?_
          obtain ⟨r5, g7, h⟩ := zp_inv h
          refine zq_scall1 rfl (by decide) rfl rfl (tX11_chances g7) rfl ?_
          refine zr_many 3 (pc' := 32) (L' := [some (.ref 0), some (.int x1), some (.int x2), some (.long r5), none, none, none, none, none]) (st' := [.int x1, .long (10000 : Int64)]) (S1 := zS c s) rfl ?_
          obtain ⟨r8, g10, h⟩ := zp_inv h
          refine zq_scall1 rfl (by decide) rfl rfl ((tX11_power g10).up (by decide)) rfl ?_
          refine zr_many 3 (pc' := 40) (L' := [some (.ref 0), some (.int x1), some (.int x2), some (.long r5), none, some (.long r8), none, none, none]) (st' := [.long r8, .long r5]) (S1 := zS c s) rfl ?_
          obtain ⟨r11, g13, h⟩ := zp_inv h
          refine zq_scall1 rfl (by decide) rfl rfl ((tX11_commonDivisor g13).up (by decide)) rfl ?_
          refine zr_many 4 (pc' := 49) (L' := [some (.ref 0), some (.int x1), some (.int x2), some (.long r5), none, some (.long r8), none, some (.long r11), none]) (st' := [.int (lg_cmp r11 (0 : Int64))]) (S1 := zS c s) rfl ?_
          refine zq_if1 (b := (lg_cmp r11 (0 : Int64)) ≤ 0) rfl Iff.rfl rfl (fun g14 => ?_) (fun g14 => ?_)
          · rw [if_pos g14] at h
            exact zr_wk [none, none, none, none, none, none, none, none, none] trivial (tX11_opens_J75 h)
          · rw [if_neg g14] at h
            refine zr_many 1 (pc' := 53) (L' := [some (.ref 0), some (.int x1), some (.int x2), some (.long r5), none, some (.long r8), none, some (.long r11), none]) (st' := [.ref 0]) (S1 := zS c s) rfl ?_
            refine zq_get rfl (zh_0 _) rfl rfl rfl ?_
            refine zr_many 2 (pc' := 59) (L' := [some (.ref 0), some (.int x1), some (.int x2), some (.long r5), none, some (.long r8), none, some (.long r11), none]) (st' := [.long r11, .long r5, .ref 3]) (S1 := zS c s) rfl ?_
            obtain ⟨g21, h⟩ := zn_inv h
            refine zq_ldiv rfl g21 rfl ?_
            obtain ⟨s16, g17, h⟩ := zp_inv h
            refine zq_call0 rfl rfl (zh_3 _) rfl rfl rfl (tX5_tell g17) rfl ?_
            refine zr_many 1 (pc' := 64) (L' := [some (.ref 0), some (.int x1), some (.int x2), some (.long r5), none, some (.long r8), none, some (.long r11), none]) (st' := [.ref 0]) (S1 := zS c s16) rfl ?_
            refine zq_get rfl (zh_0 _) rfl rfl rfl ?_
            refine zr_many 2 (pc' := 71) (L' := [some (.ref 0), some (.int x1), some (.int x2), some (.long r5), none, some (.long r8), none, some (.long r11), none]) (st' := [.long r11, .long r8, .ref 3]) (S1 := zS c s16) rfl ?_
            obtain ⟨g22, h⟩ := zn_inv h
            refine zq_ldiv rfl g22 rfl ?_
            obtain ⟨s19, g20, h⟩ := zp_inv h
            refine zq_call0 rfl rfl (zh_3 _) rfl rfl rfl ((tX5_add g20).up (by decide)) rfl ?_
            exact zr_wk [none, none, none, none, none, none, none, none, none] trivial (tX11_opens_J75 h)
        · rw [if_neg g4] at h
          exact zr_wk [none, none, none, none, none, none, none, none, none] trivial (tX11_opens_J20 h)
