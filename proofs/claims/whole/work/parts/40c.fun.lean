/-! ===== printed by wip/gen/dec.py: the methods as functions, each with its run ===== -/
def fX7_negated_J32 (n : Nat) (rc0 : zs → Int32 → Option (Int32 × zs)) (s : zs) (x2 : Int32) (x4 : Int32) (y0 : Int32) : Option ((Int32 × Int32 × zs) ⊕ (Int32 × zs)) := some (Sum.inl (y0, (x4 + (1 : Int32)), s))
theorem tX7_negated_J32 {n : Nat} {rc0 : zs → Int32 → Option (Int32 × zs)} {d : Nat} (hd : 4 ≤ d) (hrc0 : ∀ {c : Nat × Nat} {s : zs} {a2 : Int32} {r : Int32} {s' : zs}, rc0 s a2 = some (r, s') → zc d 1404 [.ref 6, .ref 1, .int a2] (zS c s) (some (.int r)) (zS c s')) {c : Nat × Nat} {s : zs} {x2 : Int32} {x4 : Int32} {y0 : Int32} {o : _} {v : Option Value} {S' : zi_S} (h : fX7_negated_J32 n rc0 s x2 x4 y0 = some o) (hn : ∀ w5, o = Sum.inl w5 → zr kX7_negated 2 (d + 1) 5 [some (.ref 6), some (.ref 1), some (.int x2), some (.int w5.1), some (.int w5.2.1)] [] (zS c w5.2.2) v S') (hx : ∀ z, o = Sum.inr z → (fun z => zr kX7_negated 2 (d + 1) 39 [some (.ref 6), some (.ref 1), some (.int x2), some (.int z.1), none] [] (zS c z.2) v S') z) : zr kX7_negated 2 (d + 1) 32 [some (.ref 6), some (.ref 1), some (.int x2), none, some (.int x4)] [.int y0] (zS c s) v S' := by
  unfold fX7_negated_J32 at h
  refine zr_many 3 (pc' := 5) (L' := [some (.ref 6), some (.ref 1), some (.int x2), some (.int y0), some (.int (x4 + (1 : Int32)))]) (st' := []) (S1 := zS c s) rfl ?_
  obtain rfl := Option.some.inj h
  exact zr_wk [some (.ref 6), some (.ref 1), some (.int x2), some (.int y0), some (.int (x4 + (1 : Int32)))] ⟨rfl, rfl, rfl, rfl, rfl, trivial⟩ (hn (y0, (x4 + (1 : Int32)), s) rfl)
def fX7_negated_B5 (n : Nat) (rc0 : zs → Int32 → Option (Int32 × zs)) (x2 : Int32) (w5 : Int32 × Int32 × zs) : Option ((Int32 × Int32 × zs) ⊕ (Int32 × zs)) := if (40 : Int32) ≤ w5.2.1 then some (Sum.inr (w5.1, w5.2.2)) else zb (fX8_take n w5.2.2 (45 : Int32) (45 : Int32)) (fun r2 s3 => if r2 < 0 then some (Sum.inr (w5.1, s3)) else if ¬ w5.1 = 0 then fX7_negated_J32 n rc0 s3 x2 w5.2.1 (0 : Int32) else fX7_negated_J32 n rc0 s3 x2 w5.2.1 (1 : Int32))
theorem tX7_negated_B5 {n : Nat} {rc0 : zs → Int32 → Option (Int32 × zs)} {d : Nat} (hd : 4 ≤ d) (hrc0 : ∀ {c : Nat × Nat} {s : zs} {a2 : Int32} {r : Int32} {s' : zs}, rc0 s a2 = some (r, s') → zc d 1404 [.ref 6, .ref 1, .int a2] (zS c s) (some (.int r)) (zS c s')) {c : Nat × Nat} {x2 : Int32} {w5 : Int32 × Int32 × zs} {o : _} {v : Option Value} {S' : zi_S} (h : fX7_negated_B5 n rc0 x2 w5 = some o) (hn : ∀ w5, o = Sum.inl w5 → zr kX7_negated 2 (d + 1) 5 [some (.ref 6), some (.ref 1), some (.int x2), some (.int w5.1), some (.int w5.2.1)] [] (zS c w5.2.2) v S') (hx : ∀ z, o = Sum.inr z → (fun z => zr kX7_negated 2 (d + 1) 39 [some (.ref 6), some (.ref 1), some (.int x2), some (.int z.1), none] [] (zS c z.2) v S') z) : zr kX7_negated 2 (d + 1) 5 [some (.ref 6), some (.ref 1), some (.int x2), some (.int w5.1), some (.int w5.2.1)] [] (zS c w5.2.2) v S' := by
  unfold fX7_negated_B5 at h
  refine zr_many 2 (pc' := 9) (L' := [some (.ref 6), some (.ref 1), some (.int x2), some (.int w5.1), some (.int w5.2.1)]) (st' := [.int (40 : Int32), .int w5.2.1]) (S1 := zS c w5.2.2) rfl ?_
  refine zq_if2 (b := (40 : Int32) ≤ w5.2.1) rfl Iff.rfl rfl (fun g1 => ?_) (fun g1 => ?_)
  · rw [if_pos g1] at h
    obtain rfl := Option.some.inj h
    exact zr_wk [some (.ref 6), some (.ref 1), some (.int x2), some (.int w5.1), none] ⟨rfl, rfl, rfl, rfl, trivial⟩ (hx (w5.1, w5.2.2) rfl)
  · rw [if_neg g1] at h
    refine zr_many 3 (pc' := 17) (L' := [some (.ref 6), some (.ref 1), some (.int x2), some (.int w5.1), some (.int w5.2.1)]) (st' := [.int (45 : Int32), .int (45 : Int32), .ref 1]) (S1 := zS c w5.2.2) rfl ?_
    obtain ⟨r2, s3, g4, h⟩ := zb_inv h
    refine zq_call1 rfl rfl (zh_1 _) rfl rfl rfl ((tX8_take g4).up (by omega)) rfl ?_
    refine zq_if1 (b := r2 < 0) rfl Iff.rfl rfl (fun g5 => ?_) (fun g5 => ?_)
    · rw [if_pos g5] at h
      obtain rfl := Option.some.inj h
      exact zr_wk [some (.ref 6), some (.ref 1), some (.int x2), some (.int w5.1), none] ⟨rfl, rfl, rfl, rfl, trivial⟩ (hx (w5.1, s3) rfl)
    · rw [if_neg g5] at h
      refine zr_many 1 (pc' := 24) (L' := [some (.ref 6), some (.ref 1), some (.int x2), some (.int w5.1), some (.int w5.2.1)]) (st' := [.int w5.1]) (S1 := zS c s3) rfl ?_
      refine zq_if1 (b := ¬ w5.1 = 0) rfl Iff.rfl rfl (fun g6 => ?_) (fun g6 => ?_)
      · rw [if_pos g6] at h
        refine zr_many 1 (pc' := 32) (L' := [some (.ref 6), some (.ref 1), some (.int x2), some (.int w5.1), some (.int w5.2.1)]) (st' := [.int (0 : Int32)]) (S1 := zS c s3) rfl ?_
        exact zr_wk [some (.ref 6), some (.ref 1), some (.int x2), none, some (.int w5.2.1)] ⟨rfl, rfl, rfl, rfl, trivial⟩ (tX7_negated_J32 hd hrc0 h hn hx)
      · rw [if_neg g6] at h
        refine zr_many 2 (pc' := 32) (L' := [some (.ref 6), some (.ref 1), some (.int x2), some (.int w5.1), some (.int w5.2.1)]) (st' := [.int (1 : Int32)]) (S1 := zS c s3) rfl ?_
        exact zr_wk [some (.ref 6), some (.ref 1), some (.int x2), none, some (.int w5.2.1)] ⟨rfl, rfl, rfl, rfl, trivial⟩ (tX7_negated_J32 hd hrc0 h hn hx)
def fX7_negated_J67 (n : Nat) (rc0 : zs → Int32 → Option (Int32 × zs)) (s : zs) (y0 : Int32) : Option (Int32 × zs) := if y0 = 0 ∨ y0 = 1 then some (y0, s) else none
theorem tX7_negated_J67 {n : Nat} {rc0 : zs → Int32 → Option (Int32 × zs)} {d : Nat} (hd : 4 ≤ d) (hrc0 : ∀ {c : Nat × Nat} {s : zs} {a2 : Int32} {r : Int32} {s' : zs}, rc0 s a2 = some (r, s') → zc d 1404 [.ref 6, .ref 1, .int a2] (zS c s) (some (.int r)) (zS c s')) {c : Nat × Nat} {s : zs} {y0 : Int32} {r : Int32} {s' : zs} (h : fX7_negated_J67 n rc0 s y0 = some (r, s')) : zr kX7_negated 2 (d + 1) 67 [none, none, none, none, none] [.int y0] (zS c s) (some (.int r)) (zS c s') := by
  unfold fX7_negated_J67 at h
  obtain ⟨gz, h⟩ := zt_inv h
  obtain ⟨rfl, rfl⟩ := Prod.mk.inj (Option.some.inj h)
  exact zq_zret rfl gz
def fX7_negated_J66 (n : Nat) (rc0 : zs → Int32 → Option (Int32 × zs)) (s : zs) : Option (Int32 × zs) := fX7_negated_J67 n rc0 s (0 : Int32)
theorem tX7_negated_J66 {n : Nat} {rc0 : zs → Int32 → Option (Int32 × zs)} {d : Nat} (hd : 4 ≤ d) (hrc0 : ∀ {c : Nat × Nat} {s : zs} {a2 : Int32} {r : Int32} {s' : zs}, rc0 s a2 = some (r, s') → zc d 1404 [.ref 6, .ref 1, .int a2] (zS c s) (some (.int r)) (zS c s')) {c : Nat × Nat} {s : zs} {r : Int32} {s' : zs} (h : fX7_negated_J66 n rc0 s = some (r, s')) : zr kX7_negated 2 (d + 1) 66 [none, none, none, none, none] [] (zS c s) (some (.int r)) (zS c s') := by
  unfold fX7_negated_J66 at h
  refine zr_many 1 (pc' := 67) (L' := [none, none, none, none, none]) (st' := [.int (0 : Int32)]) (S1 := zS c s) rfl ?_
  exact zr_wk [none, none, none, none, none] trivial (tX7_negated_J67 hd hrc0 h)
def fX7_negated_J62 (n : Nat) (rc0 : zs → Int32 → Option (Int32 × zs)) (s : zs) : Option (Int32 × zs) := fX7_negated_J67 n rc0 s (1 : Int32)
theorem tX7_negated_J62 {n : Nat} {rc0 : zs → Int32 → Option (Int32 × zs)} {d : Nat} (hd : 4 ≤ d) (hrc0 : ∀ {c : Nat × Nat} {s : zs} {a2 : Int32} {r : Int32} {s' : zs}, rc0 s a2 = some (r, s') → zc d 1404 [.ref 6, .ref 1, .int a2] (zS c s) (some (.int r)) (zS c s')) {c : Nat × Nat} {s : zs} {r : Int32} {s' : zs} (h : fX7_negated_J62 n rc0 s = some (r, s')) : zr kX7_negated 2 (d + 1) 62 [none, none, none, none, none] [] (zS c s) (some (.int r)) (zS c s') := by
  unfold fX7_negated_J62 at h
  refine zr_many 2 (pc' := 67) (L' := [none, none, none, none, none]) (st' := [.int (1 : Int32)]) (S1 := zS c s) rfl ?_
  exact zr_wk [none, none, none, none, none] trivial (tX7_negated_J67 hd hrc0 h)
def fX7_negated_J39 (n : Nat) (rc0 : zs → Int32 → Option (Int32 × zs)) (s : zs) (x2 : Int32) (x3 : Int32) : Option (Int32 × zs) := zb (fX7_thing_M n rc0 s x2) (fun r8 s9 => if r8 = 0 then fX7_negated_J66 n rc0 s9 else if x3 = 0 then fX7_negated_J62 n rc0 s9 else zb (fX7_emit n s9 (1126 : Int32)) (fun r13 s14 => if r13 = 0 then fX7_negated_J66 n rc0 s14 else fX7_negated_J62 n rc0 s14))
theorem tX7_negated_J39 {n : Nat} {rc0 : zs → Int32 → Option (Int32 × zs)} {d : Nat} (hd : 4 ≤ d) (hrc0 : ∀ {c : Nat × Nat} {s : zs} {a2 : Int32} {r : Int32} {s' : zs}, rc0 s a2 = some (r, s') → zc d 1404 [.ref 6, .ref 1, .int a2] (zS c s) (some (.int r)) (zS c s')) {c : Nat × Nat} {s : zs} {x2 : Int32} {x3 : Int32} {r : Int32} {s' : zs} (h : fX7_negated_J39 n rc0 s x2 x3 = some (r, s')) : zr kX7_negated 2 (d + 1) 39 [some (.ref 6), some (.ref 1), some (.int x2), some (.int x3), none] [] (zS c s) (some (.int r)) (zS c s') := by
  unfold fX7_negated_J39 at h
  refine zr_many 3 (pc' := 42) (L' := [some (.ref 6), some (.ref 1), some (.int x2), some (.int x3), none]) (st' := [.int x2, .ref 1, .ref 6]) (S1 := zS c s) rfl ?_
  obtain ⟨r8, s9, g10, h⟩ := zb_inv h
  refine zq_call1 rfl rfl (zh_6 _) rfl rfl rfl (tX7_thing_M hd hrc0 g10) rfl ?_
  refine zq_if1 (b := r8 = 0) rfl Iff.rfl rfl (fun g11 => ?_) (fun g11 => ?_)
  · rw [if_pos g11] at h
    exact zr_wk [none, none, none, none, none] trivial (tX7_negated_J66 hd hrc0 h)
  · rw [if_neg g11] at h
    refine zr_many 1 (pc' := 49) (L' := [some (.ref 6), some (.ref 1), some (.int x2), some (.int x3), none]) (st' := [.int x3]) (S1 := zS c s9) rfl ?_
    refine zq_if1 (b := x3 = 0) rfl Iff.rfl rfl (fun g12 => ?_) (fun g12 => ?_)
    · rw [if_pos g12] at h
      exact zr_wk [none, none, none, none, none] trivial (tX7_negated_J62 hd hrc0 h)
    · rw [if_neg g12] at h
      refine zr_many 2 (pc' := 56) (L' := [some (.ref 6), some (.ref 1), some (.int x2), some (.int x3), none]) (st' := [.int (1126 : Int32), .ref 6]) (S1 := zS c s9) rfl ?_
      obtain ⟨r13, s14, g15, h⟩ := zb_inv h
      refine zq_call1 rfl rfl (zh_6 _) rfl rfl rfl ((tX7_emit g15).up (by omega)) rfl ?_
      refine zq_if1 (b := r13 = 0) rfl Iff.rfl rfl (fun g16 => ?_) (fun g16 => ?_)
      · rw [if_pos g16] at h
        exact zr_wk [none, none, none, none, none] trivial (tX7_negated_J66 hd hrc0 h)
      · rw [if_neg g16] at h
        exact zr_wk [none, none, none, none, none] trivial (tX7_negated_J62 hd hrc0 h)
def fX7_negated_M (n : Nat) (rc0 : zs → Int32 → Option (Int32 × zs)) (s : zs) (x2 : Int32) : Option (Int32 × zs) := zp (zl (fX7_negated_B5 n rc0 x2) n ((0 : Int32), (0 : Int32), s)) (fun w7 => fX7_negated_J39 n rc0 w7.2 x2 w7.1)
theorem tX7_negated_M {n : Nat} {rc0 : zs → Int32 → Option (Int32 × zs)} {d : Nat} (hd : 4 ≤ d) (hrc0 : ∀ {c : Nat × Nat} {s : zs} {a2 : Int32} {r : Int32} {s' : zs}, rc0 s a2 = some (r, s') → zc d 1404 [.ref 6, .ref 1, .int a2] (zS c s) (some (.int r)) (zS c s')) {c : Nat × Nat} {s : zs} {x2 : Int32} {r : Int32} {s' : zs} (h : fX7_negated_M n rc0 s x2 = some (r, s')) : zc (d + 2) 1407 [.ref 6, .ref 1, .int x2] (zS c s) (some (.int r)) (zS c s') := by
  refine zc_of (k := kX7_negated) (rt := 2) (L := [some (.ref 6), some (.ref 1), some (.int x2), none, none]) zm_1407.1 rfl rfl (by decide) rfl rfl ?_
  unfold fX7_negated_M at h
  refine zr_many 4 (pc' := 5) (L' := [some (.ref 6), some (.ref 1), some (.int x2), some (.int (0 : Int32)), some (.int (0 : Int32))]) (st' := []) (S1 := zS c s) rfl ?_
  obtain ⟨w7, g17, h⟩ := zp_inv h
  refine zr_wk [some (.ref 6), some (.ref 1), some (.int x2), some (.int (0 : Int32)), some (.int (0 : Int32))] ⟨rfl, rfl, rfl, rfl, rfl, trivial⟩ (zl_cert (Z := fun w5 => zr kX7_negated 2 (d + 1) 5 [some (.ref 6), some (.ref 1), some (.int x2), some (.int w5.1), some (.int w5.2.1)] [] (zS c w5.2.2) _ _) (Y := (fun z => zr kX7_negated 2 (d + 1) 39 [some (.ref 6), some (.ref 1), some (.int x2), some (.int z.1), none] [] (zS c z.2) _ _)) (fun w o h1 h2 h3 => tX7_negated_B5 hd hrc0 h1 h2 h3) n _ _ g17 ?_)
  show zr kX7_negated 2 (d + 1) 39 [some (.ref 6), some (.ref 1), some (.int x2), some (.int w7.1), none] [] (zS c w7.2) _ _
  exact zr_wk [some (.ref 6), some (.ref 1), some (.int x2), some (.int w7.1), none] ⟨rfl, rfl, rfl, rfl, trivial⟩ (tX7_negated_J39 hd hrc0 h)
def fX7_product_J74 (n : Nat) (rc0 : zs → Int32 → Option (Int32 × zs)) (s : zs) (x2 : Int32) (x4 : Int32) (y0 : Int32) : Option ((Int32 × Int32 × zs) ⊕ ((zs) ⊕ (Int32 × zs))) := some (Sum.inl (y0, (x4 + (1 : Int32)), s))
theorem tX7_product_J74 {n : Nat} {rc0 : zs → Int32 → Option (Int32 × zs)} {d : Nat} (hd : 4 ≤ d) (hrc0 : ∀ {c : Nat × Nat} {s : zs} {a2 : Int32} {r : Int32} {s' : zs}, rc0 s a2 = some (r, s') → zc d 1404 [.ref 6, .ref 1, .int a2] (zS c s) (some (.int r)) (zS c s')) {c : Nat × Nat} {s : zs} {x2 : Int32} {x4 : Int32} {y0 : Int32} {o : _} {v : Option Value} {S' : zi_S} (h : fX7_product_J74 n rc0 s x2 x4 y0 = some o) (hn : ∀ w10, o = Sum.inl w10 → zr kX7_product 2 (d + 2) 10 [some (.ref 6), some (.ref 1), some (.int x2), some (.int w10.1), some (.int w10.2.1), none] [] (zS c w10.2.2) v S') (hx : ∀ z, o = Sum.inr z → (Sum.elim (fun z => zr kX7_product 2 (d + 2) 41 [none, none, none, none, none, none] [] (zS c z) v S') (fun z => zr kX7_product 2 (d + 2) 81 [none, none, none, some (.int z.1), none, none] [] (zS c z.2) v S')) z) : zr kX7_product 2 (d + 2) 74 [some (.ref 6), some (.ref 1), some (.int x2), none, some (.int x4), none] [.int y0] (zS c s) v S' := by
  unfold fX7_product_J74 at h
  refine zr_many 3 (pc' := 10) (L' := [some (.ref 6), some (.ref 1), some (.int x2), some (.int y0), some (.int (x4 + (1 : Int32))), none]) (st' := []) (S1 := zS c s) rfl ?_
  obtain rfl := Option.some.inj h
  exact zr_wk [some (.ref 6), some (.ref 1), some (.int x2), some (.int y0), some (.int (x4 + (1 : Int32))), none] ⟨rfl, rfl, rfl, rfl, rfl, trivial⟩ (hn (y0, (x4 + (1 : Int32)), s) rfl)
def fX7_product_J73 (n : Nat) (rc0 : zs → Int32 → Option (Int32 × zs)) (s : zs) (x2 : Int32) (x4 : Int32) : Option ((Int32 × Int32 × zs) ⊕ ((zs) ⊕ (Int32 × zs))) := fX7_product_J74 n rc0 s x2 x4 (0 : Int32)
theorem tX7_product_J73 {n : Nat} {rc0 : zs → Int32 → Option (Int32 × zs)} {d : Nat} (hd : 4 ≤ d) (hrc0 : ∀ {c : Nat × Nat} {s : zs} {a2 : Int32} {r : Int32} {s' : zs}, rc0 s a2 = some (r, s') → zc d 1404 [.ref 6, .ref 1, .int a2] (zS c s) (some (.int r)) (zS c s')) {c : Nat × Nat} {s : zs} {x2 : Int32} {x4 : Int32} {o : _} {v : Option Value} {S' : zi_S} (h : fX7_product_J73 n rc0 s x2 x4 = some o) (hn : ∀ w10, o = Sum.inl w10 → zr kX7_product 2 (d + 2) 10 [some (.ref 6), some (.ref 1), some (.int x2), some (.int w10.1), some (.int w10.2.1), none] [] (zS c w10.2.2) v S') (hx : ∀ z, o = Sum.inr z → (Sum.elim (fun z => zr kX7_product 2 (d + 2) 41 [none, none, none, none, none, none] [] (zS c z) v S') (fun z => zr kX7_product 2 (d + 2) 81 [none, none, none, some (.int z.1), none, none] [] (zS c z.2) v S')) z) : zr kX7_product 2 (d + 2) 73 [some (.ref 6), some (.ref 1), some (.int x2), none, some (.int x4), none] [] (zS c s) v S' := by
  unfold fX7_product_J73 at h
  refine zr_many 1 (pc' := 74) (L' := [some (.ref 6), some (.ref 1), some (.int x2), none, some (.int x4), none]) (st' := [.int (0 : Int32)]) (S1 := zS c s) rfl ?_
  exact zr_wk [some (.ref 6), some (.ref 1), some (.int x2), none, some (.int x4), none] ⟨rfl, rfl, rfl, rfl, trivial⟩ (tX7_product_J74 hd hrc0 h hn hx)
def fX7_product_J43 (n : Nat) (rc0 : zs → Int32 → Option (Int32 × zs)) (s : zs) (x2 : Int32) (x4 : Int32) (x5 : Int32) : Option ((Int32 × Int32 × zs) ⊕ ((zs) ⊕ (Int32 × zs))) := zp (fX8_step n s) (fun s11 => zb (fX7_negated_M n rc0 s11 x2) (fun r13 s14 => if r13 = 0 then fX7_product_J73 n rc0 s14 x2 x4 else zb (fX7_emit n s14 ((1000 : Int32) + x5)) (fun r17 s18 => if r17 = 0 then fX7_product_J73 n rc0 s18 x2 x4 else fX7_product_J74 n rc0 s18 x2 x4 (1 : Int32))))
theorem tX7_product_J43 {n : Nat} {rc0 : zs → Int32 → Option (Int32 × zs)} {d : Nat} (hd : 4 ≤ d) (hrc0 : ∀ {c : Nat × Nat} {s : zs} {a2 : Int32} {r : Int32} {s' : zs}, rc0 s a2 = some (r, s') → zc d 1404 [.ref 6, .ref 1, .int a2] (zS c s) (some (.int r)) (zS c s')) {c : Nat × Nat} {s : zs} {x2 : Int32} {x4 : Int32} {x5 : Int32} {o : _} {v : Option Value} {S' : zi_S} (h : fX7_product_J43 n rc0 s x2 x4 x5 = some o) (hn : ∀ w10, o = Sum.inl w10 → zr kX7_product 2 (d + 2) 10 [some (.ref 6), some (.ref 1), some (.int x2), some (.int w10.1), some (.int w10.2.1), none] [] (zS c w10.2.2) v S') (hx : ∀ z, o = Sum.inr z → (Sum.elim (fun z => zr kX7_product 2 (d + 2) 41 [none, none, none, none, none, none] [] (zS c z) v S') (fun z => zr kX7_product 2 (d + 2) 81 [none, none, none, some (.int z.1), none, none] [] (zS c z.2) v S')) z) : zr kX7_product 2 (d + 2) 43 [some (.ref 6), some (.ref 1), some (.int x2), none, some (.int x4), some (.int x5)] [] (zS c s) v S' := by
  unfold fX7_product_J43 at h
  refine zr_many 1 (pc' := 44) (L' := [some (.ref 6), some (.ref 1), some (.int x2), none, some (.int x4), some (.int x5)]) (st' := [.ref 1]) (S1 := zS c s) rfl ?_
  obtain ⟨s11, g12, h⟩ := zp_inv h
  refine zq_call0 rfl rfl (zh_1 _) rfl rfl rfl ((tX8_step g12).up (by omega)) rfl ?_
  refine zr_many 3 (pc' := 50) (L' := [some (.ref 6), some (.ref 1), some (.int x2), none, some (.int x4), some (.int x5)]) (st' := [.int x2, .ref 1, .ref 6]) (S1 := zS c s11) rfl ?_
  obtain ⟨r13, s14, g15, h⟩ := zb_inv h
  refine zq_call1 rfl rfl (zh_6 _) rfl rfl rfl (tX7_negated_M hd hrc0 g15) rfl ?_
  refine zq_if1 (b := r13 = 0) rfl Iff.rfl rfl (fun g16 => ?_) (fun g16 => ?_)
  · rw [if_pos g16] at h
    exact zr_wk [some (.ref 6), some (.ref 1), some (.int x2), none, some (.int x4), none] ⟨rfl, rfl, rfl, rfl, trivial⟩ (tX7_product_J73 hd hrc0 h hn hx)
  · rw [if_neg g16] at h
    refine zr_many 4 (pc' := 63) (L' := [some (.ref 6), some (.ref 1), some (.int x2), none, some (.int x4), some (.int x5)]) (st' := [.int ((1000 : Int32) + x5), .ref 6]) (S1 := zS c s14) rfl ?_
    obtain ⟨r17, s18, g19, h⟩ := zb_inv h
    refine zq_call1 rfl rfl (zh_6 _) rfl rfl rfl ((tX7_emit g19).up (by omega)) rfl ?_
    refine zq_if1 (b := r17 = 0) rfl Iff.rfl rfl (fun g20 => ?_) (fun g20 => ?_)
    · rw [if_pos g20] at h
      exact zr_wk [some (.ref 6), some (.ref 1), some (.int x2), none, some (.int x4), none] ⟨rfl, rfl, rfl, rfl, trivial⟩ (tX7_product_J73 hd hrc0 h hn hx)
    · rw [if_neg g20] at h
      refine zr_many 2 (pc' := 74) (L' := [some (.ref 6), some (.ref 1), some (.int x2), none, some (.int x4), some (.int x5)]) (st' := [.int (1 : Int32)]) (S1 := zS c s18) rfl ?_
      exact zr_wk [some (.ref 6), some (.ref 1), some (.int x2), none, some (.int x4), none] ⟨rfl, rfl, rfl, rfl, trivial⟩ (tX7_product_J74 hd hrc0 h hn hx)
def fX7_product_B10 (n : Nat) (rc0 : zs → Int32 → Option (Int32 × zs)) (x2 : Int32) (w10 : Int32 × Int32 × zs) : Option ((Int32 × Int32 × zs) ⊕ ((zs) ⊕ (Int32 × zs))) := if (40 : Int32) ≤ w10.2.1 then some (Sum.inr (Sum.inr (w10.1, w10.2.2))) else if w10.1 = 0 then some (Sum.inr (Sum.inr (w10.1, w10.2.2))) else zp (fX8_look n w10.2.2) (fun r6 => if r6 = (42 : Int32) then fX7_product_J43 n rc0 w10.2.2 x2 w10.2.1 r6 else if r6 = (47 : Int32) then fX7_product_J43 n rc0 w10.2.2 x2 w10.2.1 r6 else some (Sum.inr (Sum.inl w10.2.2)))
theorem tX7_product_B10 {n : Nat} {rc0 : zs → Int32 → Option (Int32 × zs)} {d : Nat} (hd : 4 ≤ d) (hrc0 : ∀ {c : Nat × Nat} {s : zs} {a2 : Int32} {r : Int32} {s' : zs}, rc0 s a2 = some (r, s') → zc d 1404 [.ref 6, .ref 1, .int a2] (zS c s) (some (.int r)) (zS c s')) {c : Nat × Nat} {x2 : Int32} {w10 : Int32 × Int32 × zs} {o : _} {v : Option Value} {S' : zi_S} (h : fX7_product_B10 n rc0 x2 w10 = some o) (hn : ∀ w10, o = Sum.inl w10 → zr kX7_product 2 (d + 2) 10 [some (.ref 6), some (.ref 1), some (.int x2), some (.int w10.1), some (.int w10.2.1), none] [] (zS c w10.2.2) v S') (hx : ∀ z, o = Sum.inr z → (Sum.elim (fun z => zr kX7_product 2 (d + 2) 41 [none, none, none, none, none, none] [] (zS c z) v S') (fun z => zr kX7_product 2 (d + 2) 81 [none, none, none, some (.int z.1), none, none] [] (zS c z.2) v S')) z) : zr kX7_product 2 (d + 2) 10 [some (.ref 6), some (.ref 1), some (.int x2), some (.int w10.1), some (.int w10.2.1), none] [] (zS c w10.2.2) v S' := by
  unfold fX7_product_B10 at h
  refine zr_many 2 (pc' := 14) (L' := [some (.ref 6), some (.ref 1), some (.int x2), some (.int w10.1), some (.int w10.2.1), none]) (st' := [.int (40 : Int32), .int w10.2.1]) (S1 := zS c w10.2.2) rfl ?_
  refine zq_if2 (b := (40 : Int32) ≤ w10.2.1) rfl Iff.rfl rfl (fun g4 => ?_) (fun g4 => ?_)
  · rw [if_pos g4] at h
    obtain rfl := Option.some.inj h
    exact zr_wk [none, none, none, some (.int w10.1), none, none] ⟨rfl, trivial⟩ (hx (Sum.inr (w10.1, w10.2.2)) rfl)
  · rw [if_neg g4] at h
    refine zr_many 1 (pc' := 18) (L' := [some (.ref 6), some (.ref 1), some (.int x2), some (.int w10.1), some (.int w10.2.1), none]) (st' := [.int w10.1]) (S1 := zS c w10.2.2) rfl ?_
    refine zq_if1 (b := w10.1 = 0) rfl Iff.rfl rfl (fun g5 => ?_) (fun g5 => ?_)
    · rw [if_pos g5] at h
      obtain rfl := Option.some.inj h
      exact zr_wk [none, none, none, some (.int w10.1), none, none] ⟨rfl, trivial⟩ (hx (Sum.inr (w10.1, w10.2.2)) rfl)
    · rw [if_neg g5] at h
      refine zr_many 1 (pc' := 22) (L' := [some (.ref 6), some (.ref 1), some (.int x2), some (.int w10.1), some (.int w10.2.1), none]) (st' := [.ref 1]) (S1 := zS c w10.2.2) rfl ?_
      obtain ⟨r6, g8, h⟩ := zp_inv h
      refine zq_call1 rfl rfl (zh_1 _) rfl rfl rfl ((tX8_look g8).up (by omega)) rfl ?_
      refine zr_many 3 (pc' := 31) (L' := [some (.ref 6), some (.ref 1), some (.int x2), some (.int w10.1), some (.int w10.2.1), some (.int r6)]) (st' := [.int (42 : Int32), .int r6]) (S1 := zS c w10.2.2) rfl ?_
      refine zq_if2 (b := r6 = (42 : Int32)) rfl Iff.rfl rfl (fun g9 => ?_) (fun g9 => ?_)
      · rw [if_pos g9] at h
        exact zr_wk [some (.ref 6), some (.ref 1), some (.int x2), none, some (.int w10.2.1), some (.int r6)] ⟨rfl, rfl, rfl, rfl, rfl, trivial⟩ (tX7_product_J43 hd hrc0 h hn hx)
      · rw [if_neg g9] at h
        refine zr_many 2 (pc' := 38) (L' := [some (.ref 6), some (.ref 1), some (.int x2), some (.int w10.1), some (.int w10.2.1), some (.int r6)]) (st' := [.int (47 : Int32), .int r6]) (S1 := zS c w10.2.2) rfl ?_
        refine zq_if2 (b := r6 = (47 : Int32)) rfl Iff.rfl rfl (fun g21 => ?_) (fun g21 => ?_)
        · rw [if_pos g21] at h
          exact zr_wk [some (.ref 6), some (.ref 1), some (.int x2), none, some (.int w10.2.1), some (.int r6)] ⟨rfl, rfl, rfl, rfl, rfl, trivial⟩ (tX7_product_J43 hd hrc0 h hn hx)
        · rw [if_neg g21] at h
          obtain rfl := Option.some.inj h
          exact zr_wk [none, none, none, none, none, none] trivial (hx (Sum.inl w10.2.2) rfl)
def fX7_product_J81 (n : Nat) (rc0 : zs → Int32 → Option (Int32 × zs)) (s : zs) (x3 : Int32) : Option (Int32 × zs) := if x3 = 0 ∨ x3 = 1 then some (x3, s) else none
theorem tX7_product_J81 {n : Nat} {rc0 : zs → Int32 → Option (Int32 × zs)} {d : Nat} (hd : 4 ≤ d) (hrc0 : ∀ {c : Nat × Nat} {s : zs} {a2 : Int32} {r : Int32} {s' : zs}, rc0 s a2 = some (r, s') → zc d 1404 [.ref 6, .ref 1, .int a2] (zS c s) (some (.int r)) (zS c s')) {c : Nat × Nat} {s : zs} {x3 : Int32} {r : Int32} {s' : zs} (h : fX7_product_J81 n rc0 s x3 = some (r, s')) : zr kX7_product 2 (d + 2) 81 [none, none, none, some (.int x3), none, none] [] (zS c s) (some (.int r)) (zS c s') := by
  unfold fX7_product_J81 at h
  refine zr_many 1 (pc' := 82) (L' := [none, none, none, some (.int x3), none, none]) (st' := [.int x3]) (S1 := zS c s) rfl ?_
  obtain ⟨gz, h⟩ := zt_inv h
  obtain ⟨rfl, rfl⟩ := Prod.mk.inj (Option.some.inj h)
  exact zq_zret rfl gz
def fX7_product_M (n : Nat) (rc0 : zs → Int32 → Option (Int32 × zs)) (s : zs) (x2 : Int32) : Option (Int32 × zs) := zb (fX7_negated_M n rc0 s x2) (fun r1 s2 => zp (zl (fX7_product_B10 n rc0 x2) n (r1, (0 : Int32), s2)) (Sum.elim (fun w22 => some ((1 : Int32), w22)) (fun w23 => fX7_product_J81 n rc0 w23.2 w23.1)))
theorem tX7_product_M {n : Nat} {rc0 : zs → Int32 → Option (Int32 × zs)} {d : Nat} (hd : 4 ≤ d) (hrc0 : ∀ {c : Nat × Nat} {s : zs} {a2 : Int32} {r : Int32} {s' : zs}, rc0 s a2 = some (r, s') → zc d 1404 [.ref 6, .ref 1, .int a2] (zS c s) (some (.int r)) (zS c s')) {c : Nat × Nat} {s : zs} {x2 : Int32} {r : Int32} {s' : zs} (h : fX7_product_M n rc0 s x2 = some (r, s')) : zc (d + 3) 1406 [.ref 6, .ref 1, .int x2] (zS c s) (some (.int r)) (zS c s') := by
  refine zc_of (k := kX7_product) (rt := 2) (L := [some (.ref 6), some (.ref 1), some (.int x2), none, none, none]) zm_1406.1 rfl rfl (by decide) rfl rfl ?_
  unfold fX7_product_M at h
  refine zr_many 3 (pc' := 3) (L' := [some (.ref 6), some (.ref 1), some (.int x2), none, none, none]) (st' := [.int x2, .ref 1, .ref 6]) (S1 := zS c s) rfl ?_
  obtain ⟨r1, s2, g3, h⟩ := zb_inv h
  refine zq_call1 rfl rfl (zh_6 _) rfl rfl rfl (tX7_negated_M hd hrc0 g3) rfl ?_
  refine zr_many 3 (pc' := 10) (L' := [some (.ref 6), some (.ref 1), some (.int x2), some (.int r1), some (.int (0 : Int32)), none]) (st' := []) (S1 := zS c s2) rfl ?_
  obtain ⟨w25, g24, h⟩ := zp_inv h
  rcases w25 with w22 | w23
  · simp only [Sum.elim_inl, Sum.elim_inr] at h
    refine zr_wk [some (.ref 6), some (.ref 1), some (.int x2), some (.int r1), some (.int (0 : Int32)), none] ⟨rfl, rfl, rfl, rfl, rfl, trivial⟩ (zl_cert (Z := fun w10 => zr kX7_product 2 (d + 2) 10 [some (.ref 6), some (.ref 1), some (.int x2), some (.int w10.1), some (.int w10.2.1), none] [] (zS c w10.2.2) _ _) (Y := (Sum.elim (fun z => zr kX7_product 2 (d + 2) 41 [none, none, none, none, none, none] [] (zS c z) _ _) (fun z => zr kX7_product 2 (d + 2) 81 [none, none, none, some (.int z.1), none, none] [] (zS c z.2) _ _))) (fun w o h1 h2 h3 => tX7_product_B10 hd hrc0 h1 h2 h3) n _ _ g24 ?_)
    show zr kX7_product 2 (d + 2) 41 [none, none, none, none, none, none] [] (zS c w22) _ _
    refine zr_many 1 (pc' := 42) (L' := [none, none, none, none, none, none]) (st' := [.int (1 : Int32)]) (S1 := zS c w22) rfl ?_
    obtain ⟨rfl, rfl⟩ := Prod.mk.inj (Option.some.inj h)
    exact zq_zret rfl (by decide)
  · simp only [Sum.elim_inl, Sum.elim_inr] at h
    refine zr_wk [some (.ref 6), some (.ref 1), some (.int x2), some (.int r1), some (.int (0 : Int32)), none] ⟨rfl, rfl, rfl, rfl, rfl, trivial⟩ (zl_cert (Z := fun w10 => zr kX7_product 2 (d + 2) 10 [some (.ref 6), some (.ref 1), some (.int x2), some (.int w10.1), some (.int w10.2.1), none] [] (zS c w10.2.2) _ _) (Y := (Sum.elim (fun z => zr kX7_product 2 (d + 2) 41 [none, none, none, none, none, none] [] (zS c z) _ _) (fun z => zr kX7_product 2 (d + 2) 81 [none, none, none, some (.int z.1), none, none] [] (zS c z.2) _ _))) (fun w o h1 h2 h3 => tX7_product_B10 hd hrc0 h1 h2 h3) n _ _ g24 ?_)
    show zr kX7_product 2 (d + 2) 81 [none, none, none, some (.int w23.1), none, none] [] (zS c w23.2) _ _
    exact zr_wk [none, none, none, some (.int w23.1), none, none] ⟨rfl, trivial⟩ (tX7_product_J81 hd hrc0 h)
def fX7_sum_J74 (n : Nat) (rc0 : zs → Int32 → Option (Int32 × zs)) (s : zs) (x2 : Int32) (x4 : Int32) (y0 : Int32) : Option ((Int32 × Int32 × zs) ⊕ ((zs) ⊕ (Int32 × zs))) := some (Sum.inl (y0, (x4 + (1 : Int32)), s))
theorem tX7_sum_J74 {n : Nat} {rc0 : zs → Int32 → Option (Int32 × zs)} {d : Nat} (hd : 4 ≤ d) (hrc0 : ∀ {c : Nat × Nat} {s : zs} {a2 : Int32} {r : Int32} {s' : zs}, rc0 s a2 = some (r, s') → zc d 1404 [.ref 6, .ref 1, .int a2] (zS c s) (some (.int r)) (zS c s')) {c : Nat × Nat} {s : zs} {x2 : Int32} {x4 : Int32} {y0 : Int32} {o : _} {v : Option Value} {S' : zi_S} (h : fX7_sum_J74 n rc0 s x2 x4 y0 = some o) (hn : ∀ w10, o = Sum.inl w10 → zr kX7_sum 2 (d + 3) 10 [some (.ref 6), some (.ref 1), some (.int x2), some (.int w10.1), some (.int w10.2.1), none] [] (zS c w10.2.2) v S') (hx : ∀ z, o = Sum.inr z → (Sum.elim (fun z => zr kX7_sum 2 (d + 3) 41 [none, none, none, none, none, none] [] (zS c z) v S') (fun z => zr kX7_sum 2 (d + 3) 81 [none, none, none, some (.int z.1), none, none] [] (zS c z.2) v S')) z) : zr kX7_sum 2 (d + 3) 74 [some (.ref 6), some (.ref 1), some (.int x2), none, some (.int x4), none] [.int y0] (zS c s) v S' := by
  unfold fX7_sum_J74 at h
  refine zr_many 3 (pc' := 10) (L' := [some (.ref 6), some (.ref 1), some (.int x2), some (.int y0), some (.int (x4 + (1 : Int32))), none]) (st' := []) (S1 := zS c s) rfl ?_
  obtain rfl := Option.some.inj h
  exact zr_wk [some (.ref 6), some (.ref 1), some (.int x2), some (.int y0), some (.int (x4 + (1 : Int32))), none] ⟨rfl, rfl, rfl, rfl, rfl, trivial⟩ (hn (y0, (x4 + (1 : Int32)), s) rfl)
def fX7_sum_J73 (n : Nat) (rc0 : zs → Int32 → Option (Int32 × zs)) (s : zs) (x2 : Int32) (x4 : Int32) : Option ((Int32 × Int32 × zs) ⊕ ((zs) ⊕ (Int32 × zs))) := fX7_sum_J74 n rc0 s x2 x4 (0 : Int32)
theorem tX7_sum_J73 {n : Nat} {rc0 : zs → Int32 → Option (Int32 × zs)} {d : Nat} (hd : 4 ≤ d) (hrc0 : ∀ {c : Nat × Nat} {s : zs} {a2 : Int32} {r : Int32} {s' : zs}, rc0 s a2 = some (r, s') → zc d 1404 [.ref 6, .ref 1, .int a2] (zS c s) (some (.int r)) (zS c s')) {c : Nat × Nat} {s : zs} {x2 : Int32} {x4 : Int32} {o : _} {v : Option Value} {S' : zi_S} (h : fX7_sum_J73 n rc0 s x2 x4 = some o) (hn : ∀ w10, o = Sum.inl w10 → zr kX7_sum 2 (d + 3) 10 [some (.ref 6), some (.ref 1), some (.int x2), some (.int w10.1), some (.int w10.2.1), none] [] (zS c w10.2.2) v S') (hx : ∀ z, o = Sum.inr z → (Sum.elim (fun z => zr kX7_sum 2 (d + 3) 41 [none, none, none, none, none, none] [] (zS c z) v S') (fun z => zr kX7_sum 2 (d + 3) 81 [none, none, none, some (.int z.1), none, none] [] (zS c z.2) v S')) z) : zr kX7_sum 2 (d + 3) 73 [some (.ref 6), some (.ref 1), some (.int x2), none, some (.int x4), none] [] (zS c s) v S' := by
  unfold fX7_sum_J73 at h
  refine zr_many 1 (pc' := 74) (L' := [some (.ref 6), some (.ref 1), some (.int x2), none, some (.int x4), none]) (st' := [.int (0 : Int32)]) (S1 := zS c s) rfl ?_
  exact zr_wk [some (.ref 6), some (.ref 1), some (.int x2), none, some (.int x4), none] ⟨rfl, rfl, rfl, rfl, trivial⟩ (tX7_sum_J74 hd hrc0 h hn hx)
def fX7_sum_J43 (n : Nat) (rc0 : zs → Int32 → Option (Int32 × zs)) (s : zs) (x2 : Int32) (x4 : Int32) (x5 : Int32) : Option ((Int32 × Int32 × zs) ⊕ ((zs) ⊕ (Int32 × zs))) := zp (fX8_step n s) (fun s11 => zb (fX7_product_M n rc0 s11 x2) (fun r13 s14 => if r13 = 0 then fX7_sum_J73 n rc0 s14 x2 x4 else zb (fX7_emit n s14 ((1000 : Int32) + x5)) (fun r17 s18 => if r17 = 0 then fX7_sum_J73 n rc0 s18 x2 x4 else fX7_sum_J74 n rc0 s18 x2 x4 (1 : Int32))))
theorem tX7_sum_J43 {n : Nat} {rc0 : zs → Int32 → Option (Int32 × zs)} {d : Nat} (hd : 4 ≤ d) (hrc0 : ∀ {c : Nat × Nat} {s : zs} {a2 : Int32} {r : Int32} {s' : zs}, rc0 s a2 = some (r, s') → zc d 1404 [.ref 6, .ref 1, .int a2] (zS c s) (some (.int r)) (zS c s')) {c : Nat × Nat} {s : zs} {x2 : Int32} {x4 : Int32} {x5 : Int32} {o : _} {v : Option Value} {S' : zi_S} (h : fX7_sum_J43 n rc0 s x2 x4 x5 = some o) (hn : ∀ w10, o = Sum.inl w10 → zr kX7_sum 2 (d + 3) 10 [some (.ref 6), some (.ref 1), some (.int x2), some (.int w10.1), some (.int w10.2.1), none] [] (zS c w10.2.2) v S') (hx : ∀ z, o = Sum.inr z → (Sum.elim (fun z => zr kX7_sum 2 (d + 3) 41 [none, none, none, none, none, none] [] (zS c z) v S') (fun z => zr kX7_sum 2 (d + 3) 81 [none, none, none, some (.int z.1), none, none] [] (zS c z.2) v S')) z) : zr kX7_sum 2 (d + 3) 43 [some (.ref 6), some (.ref 1), some (.int x2), none, some (.int x4), some (.int x5)] [] (zS c s) v S' := by
  unfold fX7_sum_J43 at h
  refine zr_many 1 (pc' := 44) (L' := [some (.ref 6), some (.ref 1), some (.int x2), none, some (.int x4), some (.int x5)]) (st' := [.ref 1]) (S1 := zS c s) rfl ?_
  obtain ⟨s11, g12, h⟩ := zp_inv h
  refine zq_call0 rfl rfl (zh_1 _) rfl rfl rfl ((tX8_step g12).up (by omega)) rfl ?_
  refine zr_many 3 (pc' := 50) (L' := [some (.ref 6), some (.ref 1), some (.int x2), none, some (.int x4), some (.int x5)]) (st' := [.int x2, .ref 1, .ref 6]) (S1 := zS c s11) rfl ?_
  obtain ⟨r13, s14, g15, h⟩ := zb_inv h
  refine zq_call1 rfl rfl (zh_6 _) rfl rfl rfl (tX7_product_M hd hrc0 g15) rfl ?_
  refine zq_if1 (b := r13 = 0) rfl Iff.rfl rfl (fun g16 => ?_) (fun g16 => ?_)
  · rw [if_pos g16] at h
    exact zr_wk [some (.ref 6), some (.ref 1), some (.int x2), none, some (.int x4), none] ⟨rfl, rfl, rfl, rfl, trivial⟩ (tX7_sum_J73 hd hrc0 h hn hx)
  · rw [if_neg g16] at h
    refine zr_many 4 (pc' := 63) (L' := [some (.ref 6), some (.ref 1), some (.int x2), none, some (.int x4), some (.int x5)]) (st' := [.int ((1000 : Int32) + x5), .ref 6]) (S1 := zS c s14) rfl ?_
    obtain ⟨r17, s18, g19, h⟩ := zb_inv h
    refine zq_call1 rfl rfl (zh_6 _) rfl rfl rfl ((tX7_emit g19).up (by omega)) rfl ?_
    refine zq_if1 (b := r17 = 0) rfl Iff.rfl rfl (fun g20 => ?_) (fun g20 => ?_)
    · rw [if_pos g20] at h
      exact zr_wk [some (.ref 6), some (.ref 1), some (.int x2), none, some (.int x4), none] ⟨rfl, rfl, rfl, rfl, trivial⟩ (tX7_sum_J73 hd hrc0 h hn hx)
    · rw [if_neg g20] at h
      refine zr_many 2 (pc' := 74) (L' := [some (.ref 6), some (.ref 1), some (.int x2), none, some (.int x4), some (.int x5)]) (st' := [.int (1 : Int32)]) (S1 := zS c s18) rfl ?_
      exact zr_wk [some (.ref 6), some (.ref 1), some (.int x2), none, some (.int x4), none] ⟨rfl, rfl, rfl, rfl, trivial⟩ (tX7_sum_J74 hd hrc0 h hn hx)
def fX7_sum_B10 (n : Nat) (rc0 : zs → Int32 → Option (Int32 × zs)) (x2 : Int32) (w10 : Int32 × Int32 × zs) : Option ((Int32 × Int32 × zs) ⊕ ((zs) ⊕ (Int32 × zs))) := if (40 : Int32) ≤ w10.2.1 then some (Sum.inr (Sum.inr (w10.1, w10.2.2))) else if w10.1 = 0 then some (Sum.inr (Sum.inr (w10.1, w10.2.2))) else zp (fX8_look n w10.2.2) (fun r6 => if r6 = (43 : Int32) then fX7_sum_J43 n rc0 w10.2.2 x2 w10.2.1 r6 else if r6 = (45 : Int32) then fX7_sum_J43 n rc0 w10.2.2 x2 w10.2.1 r6 else some (Sum.inr (Sum.inl w10.2.2)))
theorem tX7_sum_B10 {n : Nat} {rc0 : zs → Int32 → Option (Int32 × zs)} {d : Nat} (hd : 4 ≤ d) (hrc0 : ∀ {c : Nat × Nat} {s : zs} {a2 : Int32} {r : Int32} {s' : zs}, rc0 s a2 = some (r, s') → zc d 1404 [.ref 6, .ref 1, .int a2] (zS c s) (some (.int r)) (zS c s')) {c : Nat × Nat} {x2 : Int32} {w10 : Int32 × Int32 × zs} {o : _} {v : Option Value} {S' : zi_S} (h : fX7_sum_B10 n rc0 x2 w10 = some o) (hn : ∀ w10, o = Sum.inl w10 → zr kX7_sum 2 (d + 3) 10 [some (.ref 6), some (.ref 1), some (.int x2), some (.int w10.1), some (.int w10.2.1), none] [] (zS c w10.2.2) v S') (hx : ∀ z, o = Sum.inr z → (Sum.elim (fun z => zr kX7_sum 2 (d + 3) 41 [none, none, none, none, none, none] [] (zS c z) v S') (fun z => zr kX7_sum 2 (d + 3) 81 [none, none, none, some (.int z.1), none, none] [] (zS c z.2) v S')) z) : zr kX7_sum 2 (d + 3) 10 [some (.ref 6), some (.ref 1), some (.int x2), some (.int w10.1), some (.int w10.2.1), none] [] (zS c w10.2.2) v S' := by
  unfold fX7_sum_B10 at h
  refine zr_many 2 (pc' := 14) (L' := [some (.ref 6), some (.ref 1), some (.int x2), some (.int w10.1), some (.int w10.2.1), none]) (st' := [.int (40 : Int32), .int w10.2.1]) (S1 := zS c w10.2.2) rfl ?_
  refine zq_if2 (b := (40 : Int32) ≤ w10.2.1) rfl Iff.rfl rfl (fun g4 => ?_) (fun g4 => ?_)
  · rw [if_pos g4] at h
    obtain rfl := Option.some.inj h
    exact zr_wk [none, none, none, some (.int w10.1), none, none] ⟨rfl, trivial⟩ (hx (Sum.inr (w10.1, w10.2.2)) rfl)
  · rw [if_neg g4] at h
    refine zr_many 1 (pc' := 18) (L' := [some (.ref 6), some (.ref 1), some (.int x2), some (.int w10.1), some (.int w10.2.1), none]) (st' := [.int w10.1]) (S1 := zS c w10.2.2) rfl ?_
    refine zq_if1 (b := w10.1 = 0) rfl Iff.rfl rfl (fun g5 => ?_) (fun g5 => ?_)
    · rw [if_pos g5] at h
      obtain rfl := Option.some.inj h
      exact zr_wk [none, none, none, some (.int w10.1), none, none] ⟨rfl, trivial⟩ (hx (Sum.inr (w10.1, w10.2.2)) rfl)
    · rw [if_neg g5] at h
      refine zr_many 1 (pc' := 22) (L' := [some (.ref 6), some (.ref 1), some (.int x2), some (.int w10.1), some (.int w10.2.1), none]) (st' := [.ref 1]) (S1 := zS c w10.2.2) rfl ?_
      obtain ⟨r6, g8, h⟩ := zp_inv h
      refine zq_call1 rfl rfl (zh_1 _) rfl rfl rfl ((tX8_look g8).up (by omega)) rfl ?_
      refine zr_many 3 (pc' := 31) (L' := [some (.ref 6), some (.ref 1), some (.int x2), some (.int w10.1), some (.int w10.2.1), some (.int r6)]) (st' := [.int (43 : Int32), .int r6]) (S1 := zS c w10.2.2) rfl ?_
      refine zq_if2 (b := r6 = (43 : Int32)) rfl Iff.rfl rfl (fun g9 => ?_) (fun g9 => ?_)
      · rw [if_pos g9] at h
        exact zr_wk [some (.ref 6), some (.ref 1), some (.int x2), none, some (.int w10.2.1), some (.int r6)] ⟨rfl, rfl, rfl, rfl, rfl, trivial⟩ (tX7_sum_J43 hd hrc0 h hn hx)
      · rw [if_neg g9] at h
        refine zr_many 2 (pc' := 38) (L' := [some (.ref 6), some (.ref 1), some (.int x2), some (.int w10.1), some (.int w10.2.1), some (.int r6)]) (st' := [.int (45 : Int32), .int r6]) (S1 := zS c w10.2.2) rfl ?_
        refine zq_if2 (b := r6 = (45 : Int32)) rfl Iff.rfl rfl (fun g21 => ?_) (fun g21 => ?_)
        · rw [if_pos g21] at h
          exact zr_wk [some (.ref 6), some (.ref 1), some (.int x2), none, some (.int w10.2.1), some (.int r6)] ⟨rfl, rfl, rfl, rfl, rfl, trivial⟩ (tX7_sum_J43 hd hrc0 h hn hx)
        · rw [if_neg g21] at h
          obtain rfl := Option.some.inj h
          exact zr_wk [none, none, none, none, none, none] trivial (hx (Sum.inl w10.2.2) rfl)
def fX7_sum_J81 (n : Nat) (rc0 : zs → Int32 → Option (Int32 × zs)) (s : zs) (x3 : Int32) : Option (Int32 × zs) := if x3 = 0 ∨ x3 = 1 then some (x3, s) else none
theorem tX7_sum_J81 {n : Nat} {rc0 : zs → Int32 → Option (Int32 × zs)} {d : Nat} (hd : 4 ≤ d) (hrc0 : ∀ {c : Nat × Nat} {s : zs} {a2 : Int32} {r : Int32} {s' : zs}, rc0 s a2 = some (r, s') → zc d 1404 [.ref 6, .ref 1, .int a2] (zS c s) (some (.int r)) (zS c s')) {c : Nat × Nat} {s : zs} {x3 : Int32} {r : Int32} {s' : zs} (h : fX7_sum_J81 n rc0 s x3 = some (r, s')) : zr kX7_sum 2 (d + 3) 81 [none, none, none, some (.int x3), none, none] [] (zS c s) (some (.int r)) (zS c s') := by
  unfold fX7_sum_J81 at h
  refine zr_many 1 (pc' := 82) (L' := [none, none, none, some (.int x3), none, none]) (st' := [.int x3]) (S1 := zS c s) rfl ?_
  obtain ⟨gz, h⟩ := zt_inv h
  obtain ⟨rfl, rfl⟩ := Prod.mk.inj (Option.some.inj h)
  exact zq_zret rfl gz
def fX7_sum_M (n : Nat) (rc0 : zs → Int32 → Option (Int32 × zs)) (s : zs) (x2 : Int32) : Option (Int32 × zs) := zb (fX7_product_M n rc0 s x2) (fun r1 s2 => zp (zl (fX7_sum_B10 n rc0 x2) n (r1, (0 : Int32), s2)) (Sum.elim (fun w22 => some ((1 : Int32), w22)) (fun w23 => fX7_sum_J81 n rc0 w23.2 w23.1)))
theorem tX7_sum_M {n : Nat} {rc0 : zs → Int32 → Option (Int32 × zs)} {d : Nat} (hd : 4 ≤ d) (hrc0 : ∀ {c : Nat × Nat} {s : zs} {a2 : Int32} {r : Int32} {s' : zs}, rc0 s a2 = some (r, s') → zc d 1404 [.ref 6, .ref 1, .int a2] (zS c s) (some (.int r)) (zS c s')) {c : Nat × Nat} {s : zs} {x2 : Int32} {r : Int32} {s' : zs} (h : fX7_sum_M n rc0 s x2 = some (r, s')) : zc (d + 4) 1405 [.ref 6, .ref 1, .int x2] (zS c s) (some (.int r)) (zS c s') := by
  refine zc_of (k := kX7_sum) (rt := 2) (L := [some (.ref 6), some (.ref 1), some (.int x2), none, none, none]) zm_1405.1 rfl rfl (by decide) rfl rfl ?_
  unfold fX7_sum_M at h
  refine zr_many 3 (pc' := 3) (L' := [some (.ref 6), some (.ref 1), some (.int x2), none, none, none]) (st' := [.int x2, .ref 1, .ref 6]) (S1 := zS c s) rfl ?_
  obtain ⟨r1, s2, g3, h⟩ := zb_inv h
  refine zq_call1 rfl rfl (zh_6 _) rfl rfl rfl (tX7_product_M hd hrc0 g3) rfl ?_
  refine zr_many 3 (pc' := 10) (L' := [some (.ref 6), some (.ref 1), some (.int x2), some (.int r1), some (.int (0 : Int32)), none]) (st' := []) (S1 := zS c s2) rfl ?_
  obtain ⟨w25, g24, h⟩ := zp_inv h
  rcases w25 with w22 | w23
  · simp only [Sum.elim_inl, Sum.elim_inr] at h
    refine zr_wk [some (.ref 6), some (.ref 1), some (.int x2), some (.int r1), some (.int (0 : Int32)), none] ⟨rfl, rfl, rfl, rfl, rfl, trivial⟩ (zl_cert (Z := fun w10 => zr kX7_sum 2 (d + 3) 10 [some (.ref 6), some (.ref 1), some (.int x2), some (.int w10.1), some (.int w10.2.1), none] [] (zS c w10.2.2) _ _) (Y := (Sum.elim (fun z => zr kX7_sum 2 (d + 3) 41 [none, none, none, none, none, none] [] (zS c z) _ _) (fun z => zr kX7_sum 2 (d + 3) 81 [none, none, none, some (.int z.1), none, none] [] (zS c z.2) _ _))) (fun w o h1 h2 h3 => tX7_sum_B10 hd hrc0 h1 h2 h3) n _ _ g24 ?_)
    show zr kX7_sum 2 (d + 3) 41 [none, none, none, none, none, none] [] (zS c w22) _ _
    refine zr_many 1 (pc' := 42) (L' := [none, none, none, none, none, none]) (st' := [.int (1 : Int32)]) (S1 := zS c w22) rfl ?_
    obtain ⟨rfl, rfl⟩ := Prod.mk.inj (Option.some.inj h)
    exact zq_zret rfl (by decide)
  · simp only [Sum.elim_inl, Sum.elim_inr] at h
    refine zr_wk [some (.ref 6), some (.ref 1), some (.int x2), some (.int r1), some (.int (0 : Int32)), none] ⟨rfl, rfl, rfl, rfl, rfl, trivial⟩ (zl_cert (Z := fun w10 => zr kX7_sum 2 (d + 3) 10 [some (.ref 6), some (.ref 1), some (.int x2), some (.int w10.1), some (.int w10.2.1), none] [] (zS c w10.2.2) _ _) (Y := (Sum.elim (fun z => zr kX7_sum 2 (d + 3) 41 [none, none, none, none, none, none] [] (zS c z) _ _) (fun z => zr kX7_sum 2 (d + 3) 81 [none, none, none, some (.int z.1), none, none] [] (zS c z.2) _ _))) (fun w o h1 h2 h3 => tX7_sum_B10 hd hrc0 h1 h2 h3) n _ _ g24 ?_)
    show zr kX7_sum 2 (d + 3) 81 [none, none, none, some (.int w23.1), none, none] [] (zS c w23.2) _ _
    exact zr_wk [none, none, none, some (.int w23.1), none, none] ⟨rfl, trivial⟩ (tX7_sum_J81 hd hrc0 h)
def fX7_comparison_J52 (n : Nat) (rc0 : zs → Int32 → Option (Int32 × zs)) (s : zs) (y0 : Int32) : Option (Int32 × zs) := if y0 = 0 ∨ y0 = 1 then some (y0, s) else none
theorem tX7_comparison_J52 {n : Nat} {rc0 : zs → Int32 → Option (Int32 × zs)} {d : Nat} (hd : 4 ≤ d) (hrc0 : ∀ {c : Nat × Nat} {s : zs} {a2 : Int32} {r : Int32} {s' : zs}, rc0 s a2 = some (r, s') → zc d 1404 [.ref 6, .ref 1, .int a2] (zS c s) (some (.int r)) (zS c s')) {c : Nat × Nat} {s : zs} {y0 : Int32} {r : Int32} {s' : zs} (h : fX7_comparison_J52 n rc0 s y0 = some (r, s')) : zr kX7_comparison 2 (d + 4) 52 [none, none, none, none] [.int y0] (zS c s) (some (.int r)) (zS c s') := by
  unfold fX7_comparison_J52 at h
  obtain ⟨gz, h⟩ := zt_inv h
  obtain ⟨rfl, rfl⟩ := Prod.mk.inj (Option.some.inj h)
  exact zq_zret rfl gz
def fX7_comparison_J51 (n : Nat) (rc0 : zs → Int32 → Option (Int32 × zs)) (s : zs) : Option (Int32 × zs) := fX7_comparison_J52 n rc0 s (0 : Int32)
theorem tX7_comparison_J51 {n : Nat} {rc0 : zs → Int32 → Option (Int32 × zs)} {d : Nat} (hd : 4 ≤ d) (hrc0 : ∀ {c : Nat × Nat} {s : zs} {a2 : Int32} {r : Int32} {s' : zs}, rc0 s a2 = some (r, s') → zc d 1404 [.ref 6, .ref 1, .int a2] (zS c s) (some (.int r)) (zS c s')) {c : Nat × Nat} {s : zs} {r : Int32} {s' : zs} (h : fX7_comparison_J51 n rc0 s = some (r, s')) : zr kX7_comparison 2 (d + 4) 51 [none, none, none, none] [] (zS c s) (some (.int r)) (zS c s') := by
  unfold fX7_comparison_J51 at h
  refine zr_many 1 (pc' := 52) (L' := [none, none, none, none]) (st' := [.int (0 : Int32)]) (S1 := zS c s) rfl ?_
  exact zr_wk [none, none, none, none] trivial (tX7_comparison_J52 hd hrc0 h)
def fX7_comparison_M (n : Nat) (rc0 : zs → Int32 → Option (Int32 × zs)) (s : zs) (x2 : Int32) : Option (Int32 × zs) := zb (fX7_sum_M n rc0 s x2) (fun r1 s2 => if ¬ r1 = 0 then zb (fX8_take n s2 (60 : Int32) (62 : Int32)) (fun r5 s6 => if 0 ≤ r5 then zb (fX7_sum_M n rc0 s6 x2) (fun r9 s10 => if r9 = 0 then fX7_comparison_J51 n rc0 s10 else zb (fX7_emit n s10 ((1000 : Int32) + r5)) (fun r13 s14 => if r13 = 0 then fX7_comparison_J51 n rc0 s14 else fX7_comparison_J52 n rc0 s14 (1 : Int32))) else some ((1 : Int32), s6)) else some ((0 : Int32), s2))
theorem tX7_comparison_M {n : Nat} {rc0 : zs → Int32 → Option (Int32 × zs)} {d : Nat} (hd : 4 ≤ d) (hrc0 : ∀ {c : Nat × Nat} {s : zs} {a2 : Int32} {r : Int32} {s' : zs}, rc0 s a2 = some (r, s') → zc d 1404 [.ref 6, .ref 1, .int a2] (zS c s) (some (.int r)) (zS c s')) {c : Nat × Nat} {s : zs} {x2 : Int32} {r : Int32} {s' : zs} (h : fX7_comparison_M n rc0 s x2 = some (r, s')) : zc (d + 5) 1404 [.ref 6, .ref 1, .int x2] (zS c s) (some (.int r)) (zS c s') := by
  refine zc_of (k := kX7_comparison) (rt := 2) (L := [some (.ref 6), some (.ref 1), some (.int x2), none]) zm_1404.1 rfl rfl (by decide) rfl rfl ?_
  unfold fX7_comparison_M at h
  refine zr_many 3 (pc' := 3) (L' := [some (.ref 6), some (.ref 1), some (.int x2), none]) (st' := [.int x2, .ref 1, .ref 6]) (S1 := zS c s) rfl ?_
  obtain ⟨r1, s2, g3, h⟩ := zb_inv h
  refine zq_call1 rfl rfl (zh_6 _) rfl rfl rfl (tX7_sum_M hd hrc0 g3) rfl ?_
  refine zq_if1 (b := ¬ r1 = 0) rfl Iff.rfl rfl (fun g4 => ?_) (fun g4 => ?_)
  · rw [if_pos g4] at h
    refine zr_many 3 (pc' := 16) (L' := [some (.ref 6), some (.ref 1), some (.int x2), none]) (st' := [.int (62 : Int32), .int (60 : Int32), .ref 1]) (S1 := zS c s2) rfl ?_
    obtain ⟨r5, s6, g7, h⟩ := zb_inv h
    refine zq_call1 rfl rfl (zh_1 _) rfl rfl rfl ((tX8_take g7).up (by omega)) rfl ?_
    refine zr_many 2 (pc' := 21) (L' := [some (.ref 6), some (.ref 1), some (.int x2), some (.int r5)]) (st' := [.int r5]) (S1 := zS c s6) rfl ?_
    refine zq_if1 (b := 0 ≤ r5) rfl Iff.rfl rfl (fun g8 => ?_) (fun g8 => ?_)
    · rw [if_pos g8] at h
      refine zr_many 3 (pc' := 29) (L' := [some (.ref 6), some (.ref 1), some (.int x2), some (.int r5)]) (st' := [.int x2, .ref 1, .ref 6]) (S1 := zS c s6) rfl ?_
      obtain ⟨r9, s10, g11, h⟩ := zb_inv h
      refine zq_call1 rfl rfl (zh_6 _) rfl rfl rfl (tX7_sum_M hd hrc0 g11) rfl ?_
      refine zq_if1 (b := r9 = 0) rfl Iff.rfl rfl (fun g12 => ?_) (fun g12 => ?_)
      · rw [if_pos g12] at h
        exact zr_wk [none, none, none, none] trivial (tX7_comparison_J51 hd hrc0 h)
      · rw [if_neg g12] at h
        refine zr_many 4 (pc' := 41) (L' := [some (.ref 6), some (.ref 1), some (.int x2), some (.int r5)]) (st' := [.int ((1000 : Int32) + r5), .ref 6]) (S1 := zS c s10) rfl ?_
        obtain ⟨r13, s14, g15, h⟩ := zb_inv h
        refine zq_call1 rfl rfl (zh_6 _) rfl rfl rfl ((tX7_emit g15).up (by omega)) rfl ?_
        refine zq_if1 (b := r13 = 0) rfl Iff.rfl rfl (fun g16 => ?_) (fun g16 => ?_)
        · rw [if_pos g16] at h
          exact zr_wk [none, none, none, none] trivial (tX7_comparison_J51 hd hrc0 h)
        · rw [if_neg g16] at h
          refine zr_many 2 (pc' := 52) (L' := [some (.ref 6), some (.ref 1), some (.int x2), some (.int r5)]) (st' := [.int (1 : Int32)]) (S1 := zS c s14) rfl ?_
          exact zr_wk [none, none, none, none] trivial (tX7_comparison_J52 hd hrc0 h)
    · rw [if_neg g8] at h
      refine zr_many 1 (pc' := 25) (L' := [some (.ref 6), some (.ref 1), some (.int x2), some (.int r5)]) (st' := [.int (1 : Int32)]) (S1 := zS c s6) rfl ?_
      obtain ⟨rfl, rfl⟩ := Prod.mk.inj (Option.some.inj h)
      exact zq_zret rfl (by decide)
  · rw [if_neg g4] at h
    refine zr_many 1 (pc' := 10) (L' := [some (.ref 6), some (.ref 1), some (.int x2), none]) (st' := [.int (0 : Int32)]) (S1 := zS c s2) rfl ?_
    obtain ⟨rfl, rfl⟩ := Prod.mk.inj (Option.some.inj h)
    exact zq_zret rfl (by decide)
def fX7_comparison (n : Nat) : Nat → zs → Int32 → Option (Int32 × zs)
  | 0 => fun _ _ => none
  | u + 1 => fun s a2 => fX7_comparison_M n (fX7_comparison n u) s a2
theorem tX7_comparison_u {n : Nat} : ∀ (u : Nat) {c : Nat × Nat} {s : zs} {a2 : Int32} {r : Int32} {s' : zs}, fX7_comparison n u s a2 = some (r, s') → zc (4 + 5 * u) 1404 [.ref 6, .ref 1, .int a2] (zS c s) (some (.int r)) (zS c s') := by
  intro u
  induction u with
  | zero => intros; rename_i h; cases h
  | succ u ih =>
    intro _ _ _ _ _ h
    exact (tX7_comparison_M (d := 4 + 5 * u) (by omega) ih h).up (by omega)
theorem tX7_comparison {n : Nat} : ∀ {c : Nat × Nat} {s : zs} {a2 : Int32} {r : Int32} {s' : zs}, fX7_comparison n 6 s a2 = some (r, s') → zc 34 1404 [.ref 6, .ref 1, .int a2] (zS c s) (some (.int r)) (zS c s') := tX7_comparison_u 6
def fX8_open (n : Nat) (s : zs) (x1 : Int32) : Option zs := zt (zsi s 1 2 (0 : Int32)) (fun s1 => some (zsi s1 1 3 (if x1 < (s1.1 1 1) then x1 else (s1.1 1 1))))
theorem tX8_open {n : Nat} {c : Nat × Nat} {s : zs} {x1 : Int32} {s' : zs} (h : fX8_open n s x1 = some s') : zc 1 1605 [.ref 1, .int x1] (zS c s) none (zS c s') := by
  refine zc_of (k := kX8_open) (rt := 0) (L := [some (.ref 1), some (.int x1)]) zm_1605.1 rfl rfl (by decide) rfl rfl ?_
  unfold fX8_open at h
  refine zr_many 2 (pc' := 2) (L' := [some (.ref 1), some (.int x1)]) (st' := [.int (0 : Int32), .ref 1]) (S1 := zS c s) rfl ?_
  refine zq_put (s' := (zsi s 1 2 (0 : Int32))) rfl (zh_1 _) rfl rfl rfl rfl zsi_ne rfl ?_
  refine zr_many 2 (pc' := 7) (L' := [some (.ref 1), some (.int x1)]) (st' := [.ref 1, .ref 1]) (S1 := zS c (zsi s 1 2 (0 : Int32))) rfl ?_
  refine zq_get rfl (zh_1 _) rfl rfl rfl ?_
  refine zr_many 2 (pc' := 14) (L' := [some (.ref 1), some (.int x1)]) (st' := [.int (if x1 < ((zsi s 1 2 (0 : Int32)).1 1 1) then x1 else ((zsi s 1 2 (0 : Int32)).1 1 1)), .ref 1]) (S1 := zS c (zsi s 1 2 (0 : Int32))) rfl ?_
  obtain ⟨s1, e2, h⟩ := zt_in h
  rw [← e2]
  refine zq_put (s' := (zsi s1 1 3 (if x1 < (s1.1 1 1) then x1 else (s1.1 1 1)))) rfl (zh_1 _) rfl rfl rfl rfl zsi_ne rfl ?_
  obtain rfl := Option.some.inj h
  exact zq_vret rfl
def fX8_over_J16 (n : Nat) (s : zs) (y0 : Int32) : Option Int32 := if y0 = 0 ∨ y0 = 1 then some y0 else none
theorem tX8_over_J16 {n : Nat} {c : Nat × Nat} {s : zs} {y0 : Int32} {r : Int32} (h : fX8_over_J16 n s y0 = some r) : zr kX8_over 2 0 16 [none] [.int y0] (zS c s) (some (.int r)) (zS c s) := by
  unfold fX8_over_J16 at h
  obtain ⟨gz, h⟩ := zt_inv h
  obtain rfl := Option.some.inj h
  exact zq_zret rfl gz
def fX8_over (n : Nat) (s : zs) : Option Int32 := if (s.1 1 2) < (s.1 1 1) then fX8_over_J16 n s (0 : Int32) else fX8_over_J16 n s (1 : Int32)
theorem tX8_over {n : Nat} {c : Nat × Nat} {s : zs} {r : Int32} (h : fX8_over n s = some r) : zc 1 1608 [.ref 1] (zS c s) (some (.int r)) (zS c s) := by
  refine zc_of (k := kX8_over) (rt := 2) (L := [some (.ref 1)]) zm_1608.1 rfl rfl (by decide) rfl rfl ?_
  unfold fX8_over at h
  refine zr_many 1 (pc' := 1) (L' := [some (.ref 1)]) (st' := [.ref 1]) (S1 := zS c s) rfl ?_
  refine zq_get rfl (zh_1 _) rfl rfl rfl ?_
  refine zr_many 1 (pc' := 5) (L' := [some (.ref 1)]) (st' := [.ref 1, .int (s.1 1 2)]) (S1 := zS c s) rfl ?_
  refine zq_get rfl (zh_1 _) rfl rfl rfl ?_
  refine zq_if2 (b := (s.1 1 2) < (s.1 1 1)) rfl Iff.rfl rfl (fun g1 => ?_) (fun g1 => ?_)
  · rw [if_pos g1] at h
    refine zr_many 1 (pc' := 16) (L' := [some (.ref 1)]) (st' := [.int (0 : Int32)]) (S1 := zS c s) rfl ?_
    exact zr_wk [none] trivial (tX8_over_J16 h)
  · rw [if_neg g1] at h
    refine zr_many 2 (pc' := 16) (L' := [some (.ref 1)]) (st' := [.int (1 : Int32)]) (S1 := zS c s) rfl ?_
    exact zr_wk [none] trivial (tX8_over_J16 h)
def fX8_fault (n : Nat) (s : zs) : Option Int32 := some ((-1 : Int32) - (s.1 1 2))
theorem tX8_fault {n : Nat} {c : Nat × Nat} {s : zs} {r : Int32} (h : fX8_fault n s = some r) : zc 1 1609 [.ref 1] (zS c s) (some (.int r)) (zS c s) := by
  refine zc_of (k := kX8_fault) (rt := 1) (L := [some (.ref 1)]) zm_1609.1 rfl rfl (by decide) rfl rfl ?_
  unfold fX8_fault at h
  refine zr_many 2 (pc' := 2) (L' := [some (.ref 1)]) (st' := [.ref 1, .int (-1 : Int32)]) (S1 := zS c s) rfl ?_
  refine zq_get rfl (zh_1 _) rfl rfl rfl ?_
  refine zr_many 1 (pc' := 6) (L' := [some (.ref 1)]) (st' := [.int ((-1 : Int32) - (s.1 1 2))]) (S1 := zS c s) rfl ?_
  obtain rfl := Option.some.inj h
  exact zq_iret rfl
def fX7_read_J39 (n : Nat) (s : zs) : Option (Int32 × zs) := cond (zi_in (s.1 6 5) 100000 && (Nat.ble (0 + (s.1 6 5).toNatClampNeg) 40 && Nat.ble (0 + (s.1 6 5).toNatClampNeg) 40)) (zt (zsf s 7 (va_cpy (s.1 8) (s.1 7) 0 0 (s.1 6 5).toNatClampNeg)) (fun s8 => some ((0 : Int32), (zsi s8 6 4 (s8.1 6 5))))) none
theorem tX7_read_J39 {n : Nat} {c : Nat × Nat} {s : zs} {r : Int32} {s' : zs} (h : fX7_read_J39 n s = some (r, s')) : zr kX7_read 1 34 39 [some (.ref 6), none] [] (zS c s) (some (.int r)) (zS c s') := by
  unfold fX7_read_J39 at h
  refine zr_many 1 (pc' := 40) (L' := [some (.ref 6), none]) (st' := [.ref 6]) (S1 := zS c s) rfl ?_
  refine zq_get rfl (zh_6 _) rfl rfl rfl ?_
  refine zr_many 2 (pc' := 45) (L' := [some (.ref 6), none]) (st' := [.ref 6, .int (0 : Int32), .ref 8]) (S1 := zS c s) rfl ?_
  refine zq_get rfl (zh_6 _) rfl rfl rfl ?_
  refine zr_many 2 (pc' := 50) (L' := [some (.ref 6), none]) (st' := [.ref 6, .int (0 : Int32), .ref 7, .int (0 : Int32), .ref 8]) (S1 := zS c s) rfl ?_
  refine zq_get rfl (zh_6 _) rfl rfl rfl ?_
  obtain ⟨gc, h⟩ := zi_cond_inv h
  simp only [Bool.and_eq_true] at gc
  refine zq_cpy rfl zh_7 (zh_8 _) rfl rfl (by decide) (by decide) gc.1 gc.2.1 gc.2.2 rfl rfl ?_
  refine zr_many 2 (pc' := 58) (L' := [some (.ref 6), none]) (st' := [.ref 6, .ref 6]) (S1 := zS c (zsf s 7 (va_cpy (s.1 8) (s.1 7) 0 0 (s.1 6 5).toNatClampNeg))) rfl ?_
  refine zq_get rfl (zh_6 _) rfl rfl rfl ?_
  obtain ⟨s8, e9, h⟩ := zt_in h
  rw [← e9]
  refine zq_put (s' := (zsi s8 6 4 (s8.1 6 5))) rfl (zh_6 _) rfl rfl rfl rfl zsi_ne rfl ?_
  refine zr_many 1 (pc' := 65) (L' := [some (.ref 6), none]) (st' := [.int (0 : Int32)]) (S1 := zS c (zsi s8 6 4 (s8.1 6 5))) rfl ?_
  obtain ⟨rfl, rfl⟩ := Prod.mk.inj (Option.some.inj h)
  exact zq_iret rfl
def fX7_read_J34 (n : Nat) (s : zs) : Option (Int32 × zs) := zp (fX8_fault n s) (fun r14 => some (r14, s))
theorem tX7_read_J34 {n : Nat} {c : Nat × Nat} {s : zs} {r : Int32} {s' : zs} (h : fX7_read_J34 n s = some (r, s')) : zr kX7_read 1 34 34 [none, some (.ref 1)] [] (zS c s) (some (.int r)) (zS c s') := by
  unfold fX7_read_J34 at h
  refine zr_many 1 (pc' := 35) (L' := [none, some (.ref 1)]) (st' := [.ref 1]) (S1 := zS c s) rfl ?_
  obtain ⟨r14, g16, h⟩ := zp_inv h
  refine zq_call1 rfl rfl (zh_1 _) rfl rfl rfl ((tX8_fault g16).up (by decide)) rfl ?_
  obtain ⟨rfl, rfl⟩ := Prod.mk.inj (Option.some.inj h)
  exact zq_iret rfl
def fX7_read (n : Nat) (s : zs) : Option (Int32 × zs) := zp (fX8_open n s (40 : Int32)) (fun s2 => zp (fX8_over n (zsi s2 6 5 (0 : Int32))) (fun r4 => if ¬ r4 = 0 then fX7_read_J39 n (zsi s2 6 5 (0 : Int32)) else zb (fX7_comparison n 6 (zsi s2 6 5 (0 : Int32)) (0 : Int32)) (fun r10 s11 => if r10 = 0 then fX7_read_J34 n s11 else zp (fX8_over n s11) (fun r17 => if ¬ r17 = 0 then fX7_read_J39 n s11 else fX7_read_J34 n s11))))
theorem tX7_read {n : Nat} {c : Nat × Nat} {s : zs} {r : Int32} {s' : zs} (h : fX7_read n s = some (r, s')) : zc 35 1401 [.ref 6, .ref 1] (zS c s) (some (.int r)) (zS c s') := by
  refine zc_of (k := kX7_read) (rt := 1) (L := [some (.ref 6), some (.ref 1)]) zm_1401.1 rfl rfl (by decide) rfl rfl ?_
  unfold fX7_read at h
  refine zr_many 2 (pc' := 3) (L' := [some (.ref 6), some (.ref 1)]) (st' := [.int (40 : Int32), .ref 1]) (S1 := zS c s) rfl ?_
  obtain ⟨s2, g3, h⟩ := zp_inv h
  refine zq_call0 rfl rfl (zh_1 _) rfl rfl rfl ((tX8_open g3).up (by decide)) rfl ?_
  refine zr_many 2 (pc' := 8) (L' := [some (.ref 6), some (.ref 1)]) (st' := [.int (0 : Int32), .ref 6]) (S1 := zS c s2) rfl ?_
  refine zq_put (s' := (zsi s2 6 5 (0 : Int32))) rfl (zh_6 _) rfl rfl rfl rfl zsi_ne rfl ?_
  refine zr_many 1 (pc' := 12) (L' := [some (.ref 6), some (.ref 1)]) (st' := [.ref 1]) (S1 := zS c (zsi s2 6 5 (0 : Int32))) rfl ?_
  obtain ⟨r4, g6, h⟩ := zp_inv h
  refine zq_call1 rfl rfl (zh_1 _) rfl rfl rfl ((tX8_over g6).up (by decide)) rfl ?_
  refine zq_if1 (b := ¬ r4 = 0) rfl Iff.rfl rfl (fun g7 => ?_) (fun g7 => ?_)
  · rw [if_pos g7] at h
    exact zr_wk [some (.ref 6), none] ⟨rfl, trivial⟩ (tX7_read_J39 h)
  · rw [if_neg g7] at h
    refine zr_many 3 (pc' := 21) (L' := [some (.ref 6), some (.ref 1)]) (st' := [.int (0 : Int32), .ref 1, .ref 6]) (S1 := zS c (zsi s2 6 5 (0 : Int32))) rfl ?_
    obtain ⟨r10, s11, g12, h⟩ := zb_inv h
    refine zq_call1 rfl rfl (zh_6 _) rfl rfl rfl (tX7_comparison g12) rfl ?_
    refine zq_if1 (b := r10 = 0) rfl Iff.rfl rfl (fun g13 => ?_) (fun g13 => ?_)
    · rw [if_pos g13] at h
      exact zr_wk [none, some (.ref 1)] ⟨rfl, trivial⟩ (tX7_read_J34 h)
    · rw [if_neg g13] at h
      refine zr_many 1 (pc' := 28) (L' := [some (.ref 6), some (.ref 1)]) (st' := [.ref 1]) (S1 := zS c s11) rfl ?_
      obtain ⟨r17, g19, h⟩ := zp_inv h
      refine zq_call1 rfl rfl (zh_1 _) rfl rfl rfl ((tX8_over g19).up (by decide)) rfl ?_
      refine zq_if1 (b := ¬ r17 = 0) rfl Iff.rfl rfl (fun g20 => ?_) (fun g20 => ?_)
      · rw [if_pos g20] at h
        exact zr_wk [some (.ref 6), none] ⟨rfl, trivial⟩ (tX7_read_J39 h)
      · rw [if_neg g20] at h
        exact zr_wk [none, some (.ref 1)] ⟨rfl, trivial⟩ (tX7_read_J34 h)
def fX7_put_J20 (n : Nat) (s : zs) : Option zs := some s
theorem tX7_put_J20 {n : Nat} {c : Nat × Nat} {s : zs} {s' : zs} (h : fX7_put_J20 n s = some s') : zr kX7_put 0 0 20 [none, none, none] [] (zS c s) none (zS c s') := by
  unfold fX7_put_J20 at h
  obtain rfl := Option.some.inj h
  exact zq_vret rfl
def fX7_put (n : Nat) (s : zs) (x1 : Int32) (x2 : Int32) : Option zs := if x1 < 0 then fX7_put_J20 n s else if (7 : Int32) ≤ x1 then fX7_put_J20 n s else cond (zi_in x1 7) (fX7_put_J20 n (zsi s 10 x1.toNatClampNeg x2)) none
theorem tX7_put {n : Nat} {c : Nat × Nat} {s : zs} {x1 : Int32} {x2 : Int32} {s' : zs} (h : fX7_put n s x1 x2 = some s') : zc 1 1402 [.ref 6, .int x1, .int x2] (zS c s) none (zS c s') := by
  refine zc_of (k := kX7_put) (rt := 0) (L := [some (.ref 6), some (.int x1), some (.int x2)]) zm_1402.1 rfl rfl (by decide) rfl rfl ?_
  unfold fX7_put at h
  refine zr_many 1 (pc' := 1) (L' := [some (.ref 6), some (.int x1), some (.int x2)]) (st' := [.int x1]) (S1 := zS c s) rfl ?_
  refine zq_if1 (b := x1 < 0) rfl Iff.rfl rfl (fun g1 => ?_) (fun g1 => ?_)
  · rw [if_pos g1] at h
    exact zr_wk [none, none, none] trivial (tX7_put_J20 h)
  · rw [if_neg g1] at h
    refine zr_many 2 (pc' := 6) (L' := [some (.ref 6), some (.int x1), some (.int x2)]) (st' := [.ref 6, .int x1]) (S1 := zS c s) rfl ?_
    refine zq_get rfl (zh_6 _) rfl rfl rfl ?_
    refine zr_many 1 (pc' := 10) (L' := [some (.ref 6), some (.int x1), some (.int x2)]) (st' := [.int (7 : Int32), .int x1]) (S1 := zS c s) rfl ?_
    refine zq_if2 (b := (7 : Int32) ≤ x1) rfl Iff.rfl rfl (fun g2 => ?_) (fun g2 => ?_)
    · rw [if_pos g2] at h
      exact zr_wk [none, none, none] trivial (tX7_put_J20 h)
    · rw [if_neg g2] at h
      refine zr_many 1 (pc' := 14) (L' := [some (.ref 6), some (.int x1), some (.int x2)]) (st' := [.ref 6]) (S1 := zS c s) rfl ?_
      refine zq_get rfl (zh_6 _) rfl rfl rfl ?_
      refine zr_many 2 (pc' := 19) (L' := [some (.ref 6), some (.int x1), some (.int x2)]) (st' := [.int x2, .int x1, .ref 10]) (S1 := zS c s) rfl ?_
      obtain ⟨g3, h⟩ := zi_cond_inv h
      refine zq_ist rfl zh_10 rfl g3 rfl ?_
      exact zr_wk [none, none, none] trivial (tX7_put_J20 h)
def fX7_joined_J70 (n : Nat) (s : zs) (y0 : Int32) : Option Int32 := some y0
theorem tX7_joined_J70 {n : Nat} {c : Nat × Nat} {s : zs} {y0 : Int32} {r : Int32} (h : fX7_joined_J70 n s y0 = some r) : zr kX7_joined 1 0 70 [none, none, none] [.int y0] (zS c s) (some (.int r)) (zS c s) := by
  unfold fX7_joined_J70 at h
  obtain rfl := Option.some.inj h
  exact zq_iret rfl
def fX7_joined_J92 (n : Nat) (s : zs) (y0 : Int32) : Option Int32 := some y0
theorem tX7_joined_J92 {n : Nat} {c : Nat × Nat} {s : zs} {y0 : Int32} {r : Int32} (h : fX7_joined_J92 n s y0 = some r) : zr kX7_joined 1 0 92 [none, none, none] [.int y0] (zS c s) (some (.int r)) (zS c s) := by
  unfold fX7_joined_J92 at h
  obtain rfl := Option.some.inj h
  exact zq_iret rfl
def fX7_joined_J81 (n : Nat) (s : zs) (y0 : Int32) : Option Int32 := some y0
theorem tX7_joined_J81 {n : Nat} {c : Nat × Nat} {s : zs} {y0 : Int32} {r : Int32} (h : fX7_joined_J81 n s y0 = some r) : zr kX7_joined 1 0 81 [none, none, none] [.int y0] (zS c s) (some (.int r)) (zS c s) := by
  unfold fX7_joined_J81 at h
  obtain rfl := Option.some.inj h
  exact zq_iret rfl
def fX7_joined_J116 (n : Nat) (s : zs) (y0 : Int32) : Option Int32 := some y0
theorem tX7_joined_J116 {n : Nat} {c : Nat × Nat} {s : zs} {y0 : Int32} {r : Int32} (h : fX7_joined_J116 n s y0 = some r) : zr kX7_joined 1 0 116 [none, none, none] [.int y0] (zS c s) (some (.int r)) (zS c s) := by
  unfold fX7_joined_J116 at h
  obtain rfl := Option.some.inj h
  exact zq_iret rfl
def fX7_joined (n : Nat) (s : zs) (x0 : Int32) (x1 : Int32) (x2 : Int32) : Option Int32 := if x0 = (42 : Int32) then some (x1 * x2) else if x0 = (43 : Int32) then some (x1 + x2) else if x0 = (45 : Int32) then some (x1 - x2) else if x0 = (60 : Int32) then if x2 ≤ x1 then fX7_joined_J70 n s (0 : Int32) else fX7_joined_J70 n s (1 : Int32) else if x0 = (61 : Int32) then if ¬ x1 = x2 then fX7_joined_J92 n s (0 : Int32) else fX7_joined_J92 n s (1 : Int32) else if x0 = (62 : Int32) then if x1 ≤ x2 then fX7_joined_J81 n s (0 : Int32) else fX7_joined_J81 n s (1 : Int32) else if ¬ x2 = 0 then if x2 = 0 then none else (fX7_joined_J116 n s (x1 / x2)) else fX7_joined_J116 n s (0 : Int32)
theorem tX7_joined {n : Nat} {c : Nat × Nat} {s : zs} {x0 : Int32} {x1 : Int32} {x2 : Int32} {r : Int32} (h : fX7_joined n s x0 x1 x2 = some r) : zc 1 1411 [.int x0, .int x1, .int x2] (zS c s) (some (.int r)) (zS c s) := by
  refine zc_of (k := kX7_joined) (rt := 1) (L := [some (.int x0), some (.int x1), some (.int x2)]) zm_1411.1 rfl rfl (by decide) rfl rfl ?_
  unfold fX7_joined at h
  refine zr_many 1 (pc' := 1) (L' := [some (.int x0), some (.int x1), some (.int x2)]) (st' := [.int x0]) (S1 := zS c s) rfl ?_
  refine zq_sw (Or.inr ⟨_, _, rfl⟩) ?_
  by_cases g1 : x0 = (42 : Int32)
  · rw [if_pos g1] at h
    rw [zi_sw_pos g1]
    refine zr_many 3 (pc' := 104) (L' := [some (.int x0), some (.int x1), some (.int x2)]) (st' := [.int (x1 * x2)]) (S1 := zS c s) rfl ?_
    obtain rfl := Option.some.inj h
    exact zq_iret rfl
  rw [if_neg g1] at h
  rw [zi_sw_neg g1]
  by_cases g2 : x0 = (43 : Int32)
  · rw [if_pos g2] at h
    rw [zi_sw_pos g2]
    refine zr_many 3 (pc' := 96) (L' := [some (.int x0), some (.int x1), some (.int x2)]) (st' := [.int (x1 + x2)]) (S1 := zS c s) rfl ?_
    obtain rfl := Option.some.inj h
    exact zq_iret rfl
  rw [if_neg g2] at h
  rw [zi_sw_neg g2]
  by_cases g3 : x0 = (45 : Int32)
  · rw [if_pos g3] at h
    rw [zi_sw_pos g3]
    refine zr_many 3 (pc' := 100) (L' := [some (.int x0), some (.int x1), some (.int x2)]) (st' := [.int (x1 - x2)]) (S1 := zS c s) rfl ?_
    obtain rfl := Option.some.inj h
    exact zq_iret rfl
  rw [if_neg g3] at h
  rw [zi_sw_neg g3]
  by_cases g4 : x0 = (60 : Int32)
  · rw [if_pos g4] at h
    rw [zi_sw_pos g4]
    refine zr_many 2 (pc' := 62) (L' := [some (.int x0), some (.int x1), some (.int x2)]) (st' := [.int x2, .int x1]) (S1 := zS c s) rfl ?_
    refine zq_if2 (b := x2 ≤ x1) rfl Iff.rfl rfl (fun g5 => ?_) (fun g5 => ?_)
    · rw [if_pos g5] at h
      refine zr_many 1 (pc' := 70) (L' := [some (.int x0), some (.int x1), some (.int x2)]) (st' := [.int (0 : Int32)]) (S1 := zS c s) rfl ?_
      exact zr_wk [none, none, none] trivial (tX7_joined_J70 h)
    · rw [if_neg g5] at h
      refine zr_many 2 (pc' := 70) (L' := [some (.int x0), some (.int x1), some (.int x2)]) (st' := [.int (1 : Int32)]) (S1 := zS c s) rfl ?_
      exact zr_wk [none, none, none] trivial (tX7_joined_J70 h)
  rw [if_neg g4] at h
  rw [zi_sw_neg g4]
  by_cases g6 : x0 = (61 : Int32)
  · rw [if_pos g6] at h
    rw [zi_sw_pos g6]
    refine zr_many 2 (pc' := 84) (L' := [some (.int x0), some (.int x1), some (.int x2)]) (st' := [.int x2, .int x1]) (S1 := zS c s) rfl ?_
    refine zq_if2 (b := ¬ x1 = x2) rfl Iff.rfl rfl (fun g7 => ?_) (fun g7 => ?_)
    · rw [if_pos g7] at h
      refine zr_many 1 (pc' := 92) (L' := [some (.int x0), some (.int x1), some (.int x2)]) (st' := [.int (0 : Int32)]) (S1 := zS c s) rfl ?_
      exact zr_wk [none, none, none] trivial (tX7_joined_J92 h)
    · rw [if_neg g7] at h
      refine zr_many 2 (pc' := 92) (L' := [some (.int x0), some (.int x1), some (.int x2)]) (st' := [.int (1 : Int32)]) (S1 := zS c s) rfl ?_
      exact zr_wk [none, none, none] trivial (tX7_joined_J92 h)
  rw [if_neg g6] at h
  rw [zi_sw_neg g6]
  by_cases g8 : x0 = (62 : Int32)
  · rw [if_pos g8] at h
    rw [zi_sw_pos g8]
    refine zr_many 2 (pc' := 73) (L' := [some (.int x0), some (.int x1), some (.int x2)]) (st' := [.int x2, .int x1]) (S1 := zS c s) rfl ?_
    refine zq_if2 (b := x1 ≤ x2) rfl Iff.rfl rfl (fun g9 => ?_) (fun g9 => ?_)
    · rw [if_pos g9] at h
      refine zr_many 1 (pc' := 81) (L' := [some (.int x0), some (.int x1), some (.int x2)]) (st' := [.int (0 : Int32)]) (S1 := zS c s) rfl ?_
      exact zr_wk [none, none, none] trivial (tX7_joined_J81 h)
    · rw [if_neg g9] at h
      refine zr_many 2 (pc' := 81) (L' := [some (.int x0), some (.int x1), some (.int x2)]) (st' := [.int (1 : Int32)]) (S1 := zS c s) rfl ?_
      exact zr_wk [none, none, none] trivial (tX7_joined_J81 h)
  rw [if_neg g8] at h
  rw [zi_sw_neg g8]
  simp only [zi_sw]
  refine zr_many 1 (pc' := 106) (L' := [some (.int x0), some (.int x1), some (.int x2)]) (st' := [.int x2]) (S1 := zS c s) rfl ?_
  refine zq_if1 (b := ¬ x2 = 0) rfl Iff.rfl rfl (fun g10 => ?_) (fun g10 => ?_)
  · rw [if_pos g10] at h
    refine zr_many 2 (pc' := 115) (L' := [some (.int x0), some (.int x1), some (.int x2)]) (st' := [.int x2, .int x1]) (S1 := zS c s) rfl ?_
    obtain ⟨g11, h⟩ := zn_inv h
    refine zq_idiv rfl g11 rfl ?_
    exact zr_wk [none, none, none] trivial (tX7_joined_J116 h)
  · rw [if_neg g10] at h
    refine zr_many 2 (pc' := 116) (L' := [some (.int x0), some (.int x1), some (.int x2)]) (st' := [.int (0 : Int32)]) (S1 := zS c s) rfl ?_
    exact zr_wk [none, none, none] trivial (tX7_joined_J116 h)
def fX7_worth_J147 (n : Nat) (s : zs) (x1 : Int32) (x2 : Int32) : Option ((Int32 × Int32 × zs) ⊕ (zs)) := some (Sum.inl (x1, (x2 + (1 : Int32)), s))
theorem tX7_worth_J147 {n : Nat} {c : Nat × Nat} {s : zs} {x1 : Int32} {x2 : Int32} {o : _} {v : Option Value} {S' : zi_S} (h : fX7_worth_J147 n s x1 x2 = some o) (hn : ∀ w4, o = Sum.inl w4 → zr kX7_worth 1 4 4 [some (.ref 6), some (.int w4.1), some (.int w4.2.1), none, none] [] (zS c w4.2.2) v S') (hx : ∀ z, o = Sum.inr z → (fun z => zr kX7_worth 1 4 153 [some (.ref 6), none, none, none, none] [] (zS c z) v S') z) : zr kX7_worth 1 4 147 [some (.ref 6), some (.int x1), some (.int x2), none, none] [] (zS c s) v S' := by
  unfold fX7_worth_J147 at h
  refine zr_many 2 (pc' := 4) (L' := [some (.ref 6), some (.int x1), some (.int (x2 + (1 : Int32))), none, none]) (st' := []) (S1 := zS c s) rfl ?_
  obtain rfl := Option.some.inj h
  exact zr_wk [some (.ref 6), some (.int x1), some (.int (x2 + (1 : Int32))), none, none] ⟨rfl, rfl, rfl, trivial⟩ (hn (x1, (x2 + (1 : Int32)), s) rfl)
def fX7_worth_J75 (n : Nat) (s : zs) (x1 : Int32) (x2 : Int32) (y1 : Int32) (y2 : Int32) : Option ((Int32 × Int32 × zs) ⊕ (zs)) := cond (zi_in y1 41) (fX7_worth_J147 n (zsi s 9 y1.toNatClampNeg y2) (x1 + (1 : Int32)) x2) none
theorem tX7_worth_J75 {n : Nat} {c : Nat × Nat} {s : zs} {x1 : Int32} {x2 : Int32} {y1 : Int32} {y2 : Int32} {o : _} {v : Option Value} {S' : zi_S} (h : fX7_worth_J75 n s x1 x2 y1 y2 = some o) (hn : ∀ w4, o = Sum.inl w4 → zr kX7_worth 1 4 4 [some (.ref 6), some (.int w4.1), some (.int w4.2.1), none, none] [] (zS c w4.2.2) v S') (hx : ∀ z, o = Sum.inr z → (fun z => zr kX7_worth 1 4 153 [some (.ref 6), none, none, none, none] [] (zS c z) v S') z) : zr kX7_worth 1 4 75 [some (.ref 6), some (.int x1), some (.int x2), none, none] [.int y2, .int y1, .ref 9] (zS c s) v S' := by
  unfold fX7_worth_J75 at h
  obtain ⟨g7, h⟩ := zi_cond_inv h
  refine zq_ist rfl zh_9 rfl g7 rfl ?_
  refine zr_many 2 (pc' := 147) (L' := [some (.ref 6), some (.int (x1 + (1 : Int32))), some (.int x2), none, none]) (st' := []) (S1 := zS c (zsi s 9 y1.toNatClampNeg y2)) rfl ?_
  exact zr_wk [some (.ref 6), some (.int (x1 + (1 : Int32))), some (.int x2), none, none] ⟨rfl, rfl, rfl, trivial⟩ (tX7_worth_J147 h hn hx)
def fX7_worth_J49 (n : Nat) (s : zs) (x1 : Int32) (x2 : Int32) (x4 : Int32) : Option ((Int32 × Int32 × zs) ⊕ (zs)) := if x4 < 0 then cond (zi_in x2 40) (fX7_worth_J75 n s x1 x2 x1 (s.1 7 x2.toNatClampNeg)) none else cond (zi_in x4 7) (fX7_worth_J75 n s x1 x2 x1 (s.1 10 x4.toNatClampNeg)) none
theorem tX7_worth_J49 {n : Nat} {c : Nat × Nat} {s : zs} {x1 : Int32} {x2 : Int32} {x4 : Int32} {o : _} {v : Option Value} {S' : zi_S} (h : fX7_worth_J49 n s x1 x2 x4 = some o) (hn : ∀ w4, o = Sum.inl w4 → zr kX7_worth 1 4 4 [some (.ref 6), some (.int w4.1), some (.int w4.2.1), none, none] [] (zS c w4.2.2) v S') (hx : ∀ z, o = Sum.inr z → (fun z => zr kX7_worth 1 4 153 [some (.ref 6), none, none, none, none] [] (zS c z) v S') z) : zr kX7_worth 1 4 49 [some (.ref 6), some (.int x1), some (.int x2), none, some (.int x4)] [] (zS c s) v S' := by
  unfold fX7_worth_J49 at h
  refine zr_many 1 (pc' := 50) (L' := [some (.ref 6), some (.int x1), some (.int x2), none, some (.int x4)]) (st' := [.ref 6]) (S1 := zS c s) rfl ?_
  refine zq_get rfl (zh_6 _) rfl rfl rfl ?_
  refine zr_many 2 (pc' := 56) (L' := [some (.ref 6), some (.int x1), some (.int x2), none, some (.int x4)]) (st' := [.int x4, .int x1, .ref 9]) (S1 := zS c s) rfl ?_
  refine zq_if1 (b := x4 < 0) rfl Iff.rfl rfl (fun g5 => ?_) (fun g5 => ?_)
  · rw [if_pos g5] at h
    refine zr_many 1 (pc' := 70) (L' := [some (.ref 6), some (.int x1), some (.int x2), none, some (.int x4)]) (st' := [.ref 6, .int x1, .ref 9]) (S1 := zS c s) rfl ?_
    refine zq_get rfl (zh_6 _) rfl rfl rfl ?_
    refine zr_many 1 (pc' := 74) (L' := [some (.ref 6), some (.int x1), some (.int x2), none, some (.int x4)]) (st' := [.int x2, .ref 7, .int x1, .ref 9]) (S1 := zS c s) rfl ?_
    obtain ⟨g6, h⟩ := zi_cond_inv h
    refine zq_ild rfl (zh_7 _) rfl g6 rfl ?_
    exact zr_wk [some (.ref 6), some (.int x1), some (.int x2), none, none] ⟨rfl, rfl, rfl, trivial⟩ (tX7_worth_J75 h hn hx)
  · rw [if_neg g5] at h
    refine zr_many 1 (pc' := 60) (L' := [some (.ref 6), some (.int x1), some (.int x2), none, some (.int x4)]) (st' := [.ref 6, .int x1, .ref 9]) (S1 := zS c s) rfl ?_
    refine zq_get rfl (zh_6 _) rfl rfl rfl ?_
    refine zr_many 1 (pc' := 65) (L' := [some (.ref 6), some (.int x1), some (.int x2), none, some (.int x4)]) (st' := [.int x4, .ref 10, .int x1, .ref 9]) (S1 := zS c s) rfl ?_
    obtain ⟨g8, h⟩ := zi_cond_inv h
    refine zq_ild rfl (zh_10 _) rfl g8 rfl ?_
    refine zr_many 1 (pc' := 75) (L' := [some (.ref 6), some (.int x1), some (.int x2), none, some (.int x4)]) (st' := [.int (s.1 10 x4.toNatClampNeg), .int x1, .ref 9]) (S1 := zS c s) rfl ?_
    exact zr_wk [some (.ref 6), some (.int x1), some (.int x2), none, none] ⟨rfl, rfl, rfl, trivial⟩ (tX7_worth_J75 h hn hx)
def fX7_worth_J113 (n : Nat) (s : zs) (x1 : Int32) (x2 : Int32) (x3 : Int32) : Option ((Int32 × Int32 × zs) ⊕ (zs)) := if x1 < (2 : Int32) then fX7_worth_J147 n s x1 x2 else cond (zi_in ((x1 + (-1 : Int32)) - (1 : Int32)) 41) (cond (zi_in (x1 + (-1 : Int32)) 41) (zp (fX7_joined n s x3 (s.1 9 ((x1 + (-1 : Int32)) - (1 : Int32)).toNatClampNeg) (s.1 9 (x1 + (-1 : Int32)).toNatClampNeg)) (fun r14 => cond (zi_in ((x1 + (-1 : Int32)) - (1 : Int32)) 41) (fX7_worth_J147 n (zsi s 9 ((x1 + (-1 : Int32)) - (1 : Int32)).toNatClampNeg r14) (x1 + (-1 : Int32)) x2) none)) none) none
theorem tX7_worth_J113 {n : Nat} {c : Nat × Nat} {s : zs} {x1 : Int32} {x2 : Int32} {x3 : Int32} {o : _} {v : Option Value} {S' : zi_S} (h : fX7_worth_J113 n s x1 x2 x3 = some o) (hn : ∀ w4, o = Sum.inl w4 → zr kX7_worth 1 4 4 [some (.ref 6), some (.int w4.1), some (.int w4.2.1), none, none] [] (zS c w4.2.2) v S') (hx : ∀ z, o = Sum.inr z → (fun z => zr kX7_worth 1 4 153 [some (.ref 6), none, none, none, none] [] (zS c z) v S') z) : zr kX7_worth 1 4 113 [some (.ref 6), some (.int x1), some (.int x2), some (.int x3), none] [] (zS c s) v S' := by
  unfold fX7_worth_J113 at h
  refine zr_many 2 (pc' := 115) (L' := [some (.ref 6), some (.int x1), some (.int x2), some (.int x3), none]) (st' := [.int (2 : Int32), .int x1]) (S1 := zS c s) rfl ?_
  refine zq_if2 (b := x1 < (2 : Int32)) rfl Iff.rfl rfl (fun g11 => ?_) (fun g11 => ?_)
  · rw [if_pos g11] at h
    exact zr_wk [some (.ref 6), some (.int x1), some (.int x2), none, none] ⟨rfl, rfl, rfl, trivial⟩ (tX7_worth_J147 h hn hx)
  · rw [if_neg g11] at h
    refine zr_many 2 (pc' := 122) (L' := [some (.ref 6), some (.int (x1 + (-1 : Int32))), some (.int x2), some (.int x3), none]) (st' := [.ref 6]) (S1 := zS c s) rfl ?_
    refine zq_get rfl (zh_6 _) rfl rfl rfl ?_
    refine zr_many 5 (pc' := 130) (L' := [some (.ref 6), some (.int (x1 + (-1 : Int32))), some (.int x2), some (.int x3), none]) (st' := [.ref 6, .int x3, .int ((x1 + (-1 : Int32)) - (1 : Int32)), .ref 9]) (S1 := zS c s) rfl ?_
    refine zq_get rfl (zh_6 _) rfl rfl rfl ?_
    refine zr_many 3 (pc' := 136) (L' := [some (.ref 6), some (.int (x1 + (-1 : Int32))), some (.int x2), some (.int x3), none]) (st' := [.int ((x1 + (-1 : Int32)) - (1 : Int32)), .ref 9, .int x3, .int ((x1 + (-1 : Int32)) - (1 : Int32)), .ref 9]) (S1 := zS c s) rfl ?_
    obtain ⟨g12, h⟩ := zi_cond_inv h
    refine zq_ild rfl (zh_9 _) rfl g12 rfl ?_
    refine zr_many 1 (pc' := 138) (L' := [some (.ref 6), some (.int (x1 + (-1 : Int32))), some (.int x2), some (.int x3), none]) (st' := [.ref 6, .int (s.1 9 ((x1 + (-1 : Int32)) - (1 : Int32)).toNatClampNeg), .int x3, .int ((x1 + (-1 : Int32)) - (1 : Int32)), .ref 9]) (S1 := zS c s) rfl ?_
    refine zq_get rfl (zh_6 _) rfl rfl rfl ?_
    refine zr_many 1 (pc' := 142) (L' := [some (.ref 6), some (.int (x1 + (-1 : Int32))), some (.int x2), some (.int x3), none]) (st' := [.int (x1 + (-1 : Int32)), .ref 9, .int (s.1 9 ((x1 + (-1 : Int32)) - (1 : Int32)).toNatClampNeg), .int x3, .int ((x1 + (-1 : Int32)) - (1 : Int32)), .ref 9]) (S1 := zS c s) rfl ?_
    obtain ⟨g13, h⟩ := zi_cond_inv h
    refine zq_ild rfl (zh_9 _) rfl g13 rfl ?_
    obtain ⟨r14, g16, h⟩ := zp_inv h
    refine zq_scall1 rfl (by decide) rfl rfl ((tX7_joined g16).up (by decide)) rfl ?_
    obtain ⟨g17, h⟩ := zi_cond_inv h
    refine zq_ist rfl zh_9 rfl g17 rfl ?_
    exact zr_wk [some (.ref 6), some (.int (x1 + (-1 : Int32))), some (.int x2), none, none] ⟨rfl, rfl, rfl, trivial⟩ (tX7_worth_J147 h hn hx)
def fX7_worth_J38 (n : Nat) (s : zs) (x1 : Int32) (x2 : Int32) (x3 : Int32) (y0 : Int32) : Option ((Int32 × Int32 × zs) ⊕ (zs)) := if x3 < 0 then fX7_worth_J49 n s x1 x2 y0 else if y0 < 0 then if ¬ x3 = (126 : Int32) then fX7_worth_J113 n s x1 x2 x3 else if x1 < (1 : Int32) then fX7_worth_J113 n s x1 x2 x3 else cond (zi_in (x1 - (1 : Int32)) 41) (cond (zi_in (x1 - (1 : Int32)) 41) (fX7_worth_J147 n (zsi s 9 (x1 - (1 : Int32)).toNatClampNeg (-(s.1 9 (x1 - (1 : Int32)).toNatClampNeg))) x1 x2) none) none else fX7_worth_J49 n s x1 x2 y0
theorem tX7_worth_J38 {n : Nat} {c : Nat × Nat} {s : zs} {x1 : Int32} {x2 : Int32} {x3 : Int32} {y0 : Int32} {o : _} {v : Option Value} {S' : zi_S} (h : fX7_worth_J38 n s x1 x2 x3 y0 = some o) (hn : ∀ w4, o = Sum.inl w4 → zr kX7_worth 1 4 4 [some (.ref 6), some (.int w4.1), some (.int w4.2.1), none, none] [] (zS c w4.2.2) v S') (hx : ∀ z, o = Sum.inr z → (fun z => zr kX7_worth 1 4 153 [some (.ref 6), none, none, none, none] [] (zS c z) v S') z) : zr kX7_worth 1 4 38 [some (.ref 6), some (.int x1), some (.int x2), some (.int x3), none] [.int y0] (zS c s) v S' := by
  unfold fX7_worth_J38 at h
  refine zr_many 2 (pc' := 41) (L' := [some (.ref 6), some (.int x1), some (.int x2), some (.int x3), some (.int y0)]) (st' := [.int x3]) (S1 := zS c s) rfl ?_
  refine zq_if1 (b := x3 < 0) rfl Iff.rfl rfl (fun g4 => ?_) (fun g4 => ?_)
  · rw [if_pos g4] at h
    exact zr_wk [some (.ref 6), some (.int x1), some (.int x2), none, some (.int y0)] ⟨rfl, rfl, rfl, rfl, trivial⟩ (tX7_worth_J49 h hn hx)
  · rw [if_neg g4] at h
    refine zr_many 1 (pc' := 46) (L' := [some (.ref 6), some (.int x1), some (.int x2), some (.int x3), some (.int y0)]) (st' := [.int y0]) (S1 := zS c s) rfl ?_
    refine zq_if1 (b := y0 < 0) rfl Iff.rfl rfl (fun g9 => ?_) (fun g9 => ?_)
    · rw [if_pos g9] at h
      refine zr_many 2 (pc' := 85) (L' := [some (.ref 6), some (.int x1), some (.int x2), some (.int x3), some (.int y0)]) (st' := [.int (126 : Int32), .int x3]) (S1 := zS c s) rfl ?_
      refine zq_if2 (b := ¬ x3 = (126 : Int32)) rfl Iff.rfl rfl (fun g10 => ?_) (fun g10 => ?_)
      · rw [if_pos g10] at h
        exact zr_wk [some (.ref 6), some (.int x1), some (.int x2), some (.int x3), none] ⟨rfl, rfl, rfl, rfl, trivial⟩ (tX7_worth_J113 h hn hx)
      · rw [if_neg g10] at h
        refine zr_many 2 (pc' := 90) (L' := [some (.ref 6), some (.int x1), some (.int x2), some (.int x3), some (.int y0)]) (st' := [.int (1 : Int32), .int x1]) (S1 := zS c s) rfl ?_
        refine zq_if2 (b := x1 < (1 : Int32)) rfl Iff.rfl rfl (fun g18 => ?_) (fun g18 => ?_)
        · rw [if_pos g18] at h
          exact zr_wk [some (.ref 6), some (.int x1), some (.int x2), some (.int x3), none] ⟨rfl, rfl, rfl, rfl, trivial⟩ (tX7_worth_J113 h hn hx)
        · rw [if_neg g18] at h
          refine zr_many 1 (pc' := 94) (L' := [some (.ref 6), some (.int x1), some (.int x2), some (.int x3), some (.int y0)]) (st' := [.ref 6]) (S1 := zS c s) rfl ?_
          refine zq_get rfl (zh_6 _) rfl rfl rfl ?_
          refine zr_many 4 (pc' := 101) (L' := [some (.ref 6), some (.int x1), some (.int x2), some (.int x3), some (.int y0)]) (st' := [.ref 6, .int (x1 - (1 : Int32)), .ref 9]) (S1 := zS c s) rfl ?_
          refine zq_get rfl (zh_6 _) rfl rfl rfl ?_
          refine zr_many 3 (pc' := 107) (L' := [some (.ref 6), some (.int x1), some (.int x2), some (.int x3), some (.int y0)]) (st' := [.int (x1 - (1 : Int32)), .ref 9, .int (x1 - (1 : Int32)), .ref 9]) (S1 := zS c s) rfl ?_
          obtain ⟨g19, h⟩ := zi_cond_inv h
          refine zq_ild rfl (zh_9 _) rfl g19 rfl ?_
          refine zr_many 1 (pc' := 109) (L' := [some (.ref 6), some (.int x1), some (.int x2), some (.int x3), some (.int y0)]) (st' := [.int (-(s.1 9 (x1 - (1 : Int32)).toNatClampNeg)), .int (x1 - (1 : Int32)), .ref 9]) (S1 := zS c s) rfl ?_
          obtain ⟨g20, h⟩ := zi_cond_inv h
          refine zq_ist rfl zh_9 rfl g20 rfl ?_
          refine zr_many 1 (pc' := 147) (L' := [some (.ref 6), some (.int x1), some (.int x2), some (.int x3), some (.int y0)]) (st' := []) (S1 := zS c (zsi s 9 (x1 - (1 : Int32)).toNatClampNeg (-(s.1 9 (x1 - (1 : Int32)).toNatClampNeg)))) rfl ?_
          exact zr_wk [some (.ref 6), some (.int x1), some (.int x2), none, none] ⟨rfl, rfl, rfl, trivial⟩ (tX7_worth_J147 h hn hx)
    · rw [if_neg g9] at h
      exact zr_wk [some (.ref 6), some (.int x1), some (.int x2), none, some (.int y0)] ⟨rfl, rfl, rfl, rfl, trivial⟩ (tX7_worth_J49 h hn hx)
def fX7_worth_B4 (n : Nat) (w4 : Int32 × Int32 × zs) : Option ((Int32 × Int32 × zs) ⊕ (zs)) := if (w4.2.2.1 6 4) ≤ w4.2.1 then some (Sum.inr w4.2.2) else cond (zi_in w4.2.1 40) (if 0 ≤ ((w4.2.2.1 7 w4.2.1.toNatClampNeg) - (1000 : Int32)) then fX7_worth_J38 n w4.2.2 w4.1 w4.2.1 ((w4.2.2.1 7 w4.2.1.toNatClampNeg) - (1000 : Int32)) (zti (ztx (1000000 + 0)) ((((w4.2.2.1 7 w4.2.1.toNatClampNeg) - (1000 : Int32)).toUInt32 % 65536).toInt32)) else fX7_worth_J38 n w4.2.2 w4.1 w4.2.1 ((w4.2.2.1 7 w4.2.1.toNatClampNeg) - (1000 : Int32)) (-1 : Int32)) none
theorem tX7_worth_B4 {n : Nat} {c : Nat × Nat} {w4 : Int32 × Int32 × zs} {o : _} {v : Option Value} {S' : zi_S} (h : fX7_worth_B4 n w4 = some o) (hn : ∀ w4, o = Sum.inl w4 → zr kX7_worth 1 4 4 [some (.ref 6), some (.int w4.1), some (.int w4.2.1), none, none] [] (zS c w4.2.2) v S') (hx : ∀ z, o = Sum.inr z → (fun z => zr kX7_worth 1 4 153 [some (.ref 6), none, none, none, none] [] (zS c z) v S') z) : zr kX7_worth 1 4 4 [some (.ref 6), some (.int w4.1), some (.int w4.2.1), none, none] [] (zS c w4.2.2) v S' := by
  unfold fX7_worth_B4 at h
  refine zr_many 2 (pc' := 6) (L' := [some (.ref 6), some (.int w4.1), some (.int w4.2.1), none, none]) (st' := [.ref 6, .int w4.2.1]) (S1 := zS c w4.2.2) rfl ?_
  refine zq_get rfl (zh_6 _) rfl rfl rfl ?_
  refine zq_if2 (b := (w4.2.2.1 6 4) ≤ w4.2.1) rfl Iff.rfl rfl (fun g1 => ?_) (fun g1 => ?_)
  · rw [if_pos g1] at h
    obtain rfl := Option.some.inj h
    exact zr_wk [some (.ref 6), none, none, none, none] ⟨rfl, trivial⟩ (hx w4.2.2 rfl)
  · rw [if_neg g1] at h
    refine zr_many 1 (pc' := 13) (L' := [some (.ref 6), some (.int w4.1), some (.int w4.2.1), none, none]) (st' := [.ref 6]) (S1 := zS c w4.2.2) rfl ?_
    refine zq_get rfl (zh_6 _) rfl rfl rfl ?_
    refine zr_many 1 (pc' := 17) (L' := [some (.ref 6), some (.int w4.1), some (.int w4.2.1), none, none]) (st' := [.int w4.2.1, .ref 7]) (S1 := zS c w4.2.2) rfl ?_
    obtain ⟨g2, h⟩ := zi_cond_inv h
    refine zq_ild rfl (zh_7 _) rfl g2 rfl ?_
    refine zr_many 4 (pc' := 24) (L' := [some (.ref 6), some (.int w4.1), some (.int w4.2.1), some (.int ((w4.2.2.1 7 w4.2.1.toNatClampNeg) - (1000 : Int32))), none]) (st' := [.int ((w4.2.2.1 7 w4.2.1.toNatClampNeg) - (1000 : Int32))]) (S1 := zS c w4.2.2) rfl ?_
    refine zq_if1 (b := 0 ≤ ((w4.2.2.1 7 w4.2.1.toNatClampNeg) - (1000 : Int32))) rfl Iff.rfl rfl (fun g3 => ?_) (fun g3 => ?_)
    · rw [if_pos g3] at h
      refine zr_many 3 (pc' := 35) (L' := [some (.ref 6), some (.int w4.1), some (.int w4.2.1), some (.int ((w4.2.2.1 7 w4.2.1.toNatClampNeg) - (1000 : Int32))), none]) (st' := [.int (((w4.2.2.1 7 w4.2.1.toNatClampNeg) - (1000 : Int32)).toUInt32 % 65536).toInt32, .ref (1000000 + 0)]) (S1 := zS c w4.2.2) rfl ?_
      refine zq_callT rfl rfl (zh_T zT_0 _) rfl (zT_ble zT_0) rfl (zc_idx zT_0 (by decide)) rfl ?_
      exact zr_wk [some (.ref 6), some (.int w4.1), some (.int w4.2.1), some (.int ((w4.2.2.1 7 w4.2.1.toNatClampNeg) - (1000 : Int32))), none] ⟨rfl, rfl, rfl, rfl, trivial⟩ (tX7_worth_J38 h hn hx)
    · rw [if_neg g3] at h
      refine zr_many 2 (pc' := 38) (L' := [some (.ref 6), some (.int w4.1), some (.int w4.2.1), some (.int ((w4.2.2.1 7 w4.2.1.toNatClampNeg) - (1000 : Int32))), none]) (st' := [.int (-1 : Int32)]) (S1 := zS c w4.2.2) rfl ?_
      exact zr_wk [some (.ref 6), some (.int w4.1), some (.int w4.2.1), some (.int ((w4.2.2.1 7 w4.2.1.toNatClampNeg) - (1000 : Int32))), none] ⟨rfl, rfl, rfl, rfl, trivial⟩ (tX7_worth_J38 h hn hx)
def fX7_worth (n : Nat) (s : zs) : Option (Int32 × zs) := zp (zl (fX7_worth_B4 n) n ((0 : Int32), (0 : Int32), s)) (fun w21 => some ((w21.1 9 0), w21))
theorem tX7_worth {n : Nat} {c : Nat × Nat} {s : zs} {r : Int32} {s' : zs} (h : fX7_worth n s = some (r, s')) : zc 5 1410 [.ref 6] (zS c s) (some (.int r)) (zS c s') := by
  refine zc_of (k := kX7_worth) (rt := 1) (L := [some (.ref 6), none, none, none, none]) zm_1410.1 rfl rfl (by decide) rfl rfl ?_
  unfold fX7_worth at h
  refine zr_many 4 (pc' := 4) (L' := [some (.ref 6), some (.int (0 : Int32)), some (.int (0 : Int32)), none, none]) (st' := []) (S1 := zS c s) rfl ?_
  obtain ⟨w21, g23, h⟩ := zp_inv h
  refine zr_wk [some (.ref 6), some (.int (0 : Int32)), some (.int (0 : Int32)), none, none] ⟨rfl, rfl, rfl, trivial⟩ (zl_cert (Z := fun w4 => zr kX7_worth 1 4 4 [some (.ref 6), some (.int w4.1), some (.int w4.2.1), none, none] [] (zS c w4.2.2) _ _) (Y := (fun z => zr kX7_worth 1 4 153 [some (.ref 6), none, none, none, none] [] (zS c z) _ _)) (fun w o h1 h2 h3 => tX7_worth_B4 h1 h2 h3) n _ _ g23 ?_)
  show zr kX7_worth 1 4 153 [some (.ref 6), none, none, none, none] [] (zS c w21) _ _
  refine zr_many 1 (pc' := 154) (L' := [some (.ref 6), none, none, none, none]) (st' := [.ref 6]) (S1 := zS c w21) rfl ?_
  refine zq_get rfl (zh_6 _) rfl rfl rfl ?_
  refine zr_many 1 (pc' := 158) (L' := [some (.ref 6), none, none, none, none]) (st' := [.int (0 : Int32), .ref 9]) (S1 := zS c w21) rfl ?_
  refine zq_ild rfl (zh_9 _) rfl (by decide) rfl ?_
  obtain ⟨rfl, rfl⟩ := Prod.mk.inj (Option.some.inj h)
  exact zq_iret rfl
def fX7_minutes_J47 (n : Nat) (s : zs) (y0 : Int32) : Option (Int32 × zs) := some ((if (1 : Int32) < (if y0 < (99 : Int32) then y0 else (99 : Int32)) then (if y0 < (99 : Int32) then y0 else (99 : Int32)) else (1 : Int32)), s)
theorem tX7_minutes_J47 {n : Nat} {c : Nat × Nat} {s : zs} {y0 : Int32} {r : Int32} {s' : zs} (h : fX7_minutes_J47 n s y0 = some (r, s')) : zr kX7_minutes 1 5 47 [none, none] [.int y0] (zS c s) (some (.int r)) (zS c s') := by
  unfold fX7_minutes_J47 at h
  refine zr_many 6 (pc' := 58) (L' := [none, some (.int y0)]) (st' := [.int (if (1 : Int32) < (if y0 < (99 : Int32) then y0 else (99 : Int32)) then (if y0 < (99 : Int32) then y0 else (99 : Int32)) else (1 : Int32))]) (S1 := zS c s) rfl ?_
  obtain ⟨rfl, rfl⟩ := Prod.mk.inj (Option.some.inj h)
  exact zq_iret rfl
def fX7_minutes (n : Nat) (s : zs) : Option (Int32 × zs) := if ¬ (s.1 6 4) = 0 then zb (fX7_worth n s) (fun r2 s3 => fX7_minutes_J47 n s3 r2) else fX7_minutes_J47 n s (((((s.1 10 0) * (2 : Int32)) + ((s.1 10 1) / (2 : Int32))) + (s.1 10 2)) + ((s.1 10 3) * (3 : Int32)))
theorem tX7_minutes {n : Nat} {c : Nat × Nat} {s : zs} {r : Int32} {s' : zs} (h : fX7_minutes n s = some (r, s')) : zc 6 1403 [.ref 6] (zS c s) (some (.int r)) (zS c s') := by
  refine zc_of (k := kX7_minutes) (rt := 1) (L := [some (.ref 6), none]) zm_1403.1 rfl rfl (by decide) rfl rfl ?_
  unfold fX7_minutes at h
  refine zr_many 1 (pc' := 1) (L' := [some (.ref 6), none]) (st' := [.ref 6]) (S1 := zS c s) rfl ?_
  refine zq_get rfl (zh_6 _) rfl rfl rfl ?_
  refine zq_if1 (b := ¬ (s.1 6 4) = 0) rfl Iff.rfl rfl (fun g1 => ?_) (fun g1 => ?_)
  · rw [if_pos g1] at h
    refine zr_many 1 (pc' := 44) (L' := [some (.ref 6), none]) (st' := [.ref 6]) (S1 := zS c s) rfl ?_
    obtain ⟨r2, s3, g4, h⟩ := zb_inv h
    refine zq_call1 rfl rfl (zh_6 _) rfl rfl rfl (tX7_worth g4) rfl ?_
    exact zr_wk [none, none] trivial (tX7_minutes_J47 h)
  · rw [if_neg g1] at h
    refine zr_many 1 (pc' := 8) (L' := [some (.ref 6), none]) (st' := [.ref 6]) (S1 := zS c s) rfl ?_
    refine zq_get rfl (zh_6 _) rfl rfl rfl ?_
    refine zr_many 1 (pc' := 12) (L' := [some (.ref 6), none]) (st' := [.int (0 : Int32), .ref 10]) (S1 := zS c s) rfl ?_
    refine zq_ild rfl (zh_10 _) rfl (by decide) rfl ?_
    refine zr_many 3 (pc' := 16) (L' := [some (.ref 6), none]) (st' := [.ref 6, .int ((s.1 10 0) * (2 : Int32))]) (S1 := zS c s) rfl ?_
    refine zq_get rfl (zh_6 _) rfl rfl rfl ?_
    refine zr_many 1 (pc' := 20) (L' := [some (.ref 6), none]) (st' := [.int (1 : Int32), .ref 10, .int ((s.1 10 0) * (2 : Int32))]) (S1 := zS c s) rfl ?_
    refine zq_ild rfl (zh_10 _) rfl (by decide) rfl ?_
    refine zr_many 1 (pc' := 22) (L' := [some (.ref 6), none]) (st' := [.int (2 : Int32), .int (s.1 10 1), .int ((s.1 10 0) * (2 : Int32))]) (S1 := zS c s) rfl ?_
    refine zq_idiv rfl (by decide) rfl ?_
    refine zr_many 2 (pc' := 25) (L' := [some (.ref 6), none]) (st' := [.ref 6, .int (((s.1 10 0) * (2 : Int32)) + ((s.1 10 1) / (2 : Int32)))]) (S1 := zS c s) rfl ?_
    refine zq_get rfl (zh_6 _) rfl rfl rfl ?_
    refine zr_many 1 (pc' := 29) (L' := [some (.ref 6), none]) (st' := [.int (2 : Int32), .ref 10, .int (((s.1 10 0) * (2 : Int32)) + ((s.1 10 1) / (2 : Int32)))]) (S1 := zS c s) rfl ?_
    refine zq_ild rfl (zh_10 _) rfl (by decide) rfl ?_
    refine zr_many 2 (pc' := 32) (L' := [some (.ref 6), none]) (st' := [.ref 6, .int ((((s.1 10 0) * (2 : Int32)) + ((s.1 10 1) / (2 : Int32))) + (s.1 10 2))]) (S1 := zS c s) rfl ?_
    refine zq_get rfl (zh_6 _) rfl rfl rfl ?_
    refine zr_many 1 (pc' := 36) (L' := [some (.ref 6), none]) (st' := [.int (3 : Int32), .ref 10, .int ((((s.1 10 0) * (2 : Int32)) + ((s.1 10 1) / (2 : Int32))) + (s.1 10 2))]) (S1 := zS c s) rfl ?_
    refine zq_ild rfl (zh_10 _) rfl (by decide) rfl ?_
    refine zr_many 4 (pc' := 47) (L' := [some (.ref 6), none]) (st' := [.int (((((s.1 10 0) * (2 : Int32)) + ((s.1 10 1) / (2 : Int32))) + (s.1 10 2)) + ((s.1 10 3) * (3 : Int32)))]) (S1 := zS c s) rfl ?_
    exact zr_wk [none, none] trivial (tX7_minutes_J47 h)
def fX8_length (n : Nat) (s : zs) : Option Int32 := some (s.1 1 1)
theorem tX8_length {n : Nat} {c : Nat × Nat} {s : zs} {r : Int32} (h : fX8_length n s = some r) : zc 1 1601 [.ref 1] (zS c s) (some (.int r)) (zS c s) := by
  refine zc_of (k := kX8_length) (rt := 1) (L := [some (.ref 1)]) zm_1601.1 rfl rfl (by decide) rfl rfl ?_
  unfold fX8_length at h
  refine zr_many 1 (pc' := 1) (L' := [some (.ref 1)]) (st' := [.ref 1]) (S1 := zS c s) rfl ?_
  refine zq_get rfl (zh_1 _) rfl rfl rfl ?_
  obtain rfl := Option.some.inj h
  exact zq_iret rfl
def fX8_addFour_B15 (n : Nat) (x1 : Int32) (w15 : Int32 × zs) : Option ((Int32 × zs) ⊕ (zs)) := if (4 : Int32) ≤ w15.1 then some (Sum.inr w15.2) else cond (zi_in ((w15.2.1 1 1) + w15.1) 80) (some (Sum.inl ((w15.1 + (1 : Int32)), (zsi w15.2 2 ((w15.2.1 1 1) + w15.1).toNatClampNeg ((x1.toUInt32 >>> (((24 : Int32) - ((8 : Int32) * w15.1)).toUInt32 &&& Int32.toUInt32 31)).toInt32 &&& (255 : Int32)))))) none
theorem tX8_addFour_B15 {n : Nat} {c : Nat × Nat} {x1 : Int32} {w15 : Int32 × zs} {o : _} {v : Option Value} {S' : zi_S} (h : fX8_addFour_B15 n x1 w15 = some o) (hn : ∀ w15, o = Sum.inl w15 → zr kX8_addFour 2 0 15 [some (.ref 1), some (.int x1), some (.int w15.1)] [] (zS c w15.2) v S') (hx : ∀ z, o = Sum.inr z → (fun z => zr kX8_addFour 2 0 50 [some (.ref 1), none, none] [] (zS c z) v S') z) : zr kX8_addFour 2 0 15 [some (.ref 1), some (.int x1), some (.int w15.1)] [] (zS c w15.2) v S' := by
  unfold fX8_addFour_B15 at h
  refine zr_many 2 (pc' := 17) (L' := [some (.ref 1), some (.int x1), some (.int w15.1)]) (st' := [.int (4 : Int32), .int w15.1]) (S1 := zS c w15.2) rfl ?_
  refine zq_if2 (b := (4 : Int32) ≤ w15.1) rfl Iff.rfl rfl (fun g2 => ?_) (fun g2 => ?_)
  · rw [if_pos g2] at h
    obtain rfl := Option.some.inj h
    exact zr_wk [some (.ref 1), none, none] ⟨rfl, trivial⟩ (hx w15.2 rfl)
  · rw [if_neg g2] at h
    refine zr_many 1 (pc' := 21) (L' := [some (.ref 1), some (.int x1), some (.int w15.1)]) (st' := [.ref 1]) (S1 := zS c w15.2) rfl ?_
    refine zq_get rfl (zh_1 _) rfl rfl rfl ?_
    refine zr_many 1 (pc' := 25) (L' := [some (.ref 1), some (.int x1), some (.int w15.1)]) (st' := [.ref 1, .ref 2]) (S1 := zS c w15.2) rfl ?_
    refine zq_get rfl (zh_1 _) rfl rfl rfl ?_
    refine zr_many 11 (pc' := 43) (L' := [some (.ref 1), some (.int x1), some (.int w15.1)]) (st' := [.int ((x1.toUInt32 >>> (((24 : Int32) - ((8 : Int32) * w15.1)).toUInt32 &&& Int32.toUInt32 31)).toInt32 &&& (255 : Int32)), .int ((w15.2.1 1 1) + w15.1), .ref 2]) (S1 := zS c w15.2) rfl ?_
    obtain ⟨g3, h⟩ := zi_cond_inv h
    refine zq_ist rfl zh_2 rfl g3 rfl ?_
    refine zr_many 2 (pc' := 15) (L' := [some (.ref 1), some (.int x1), some (.int (w15.1 + (1 : Int32)))]) (st' := []) (S1 := zS c (zsi w15.2 2 ((w15.2.1 1 1) + w15.1).toNatClampNeg ((x1.toUInt32 >>> (((24 : Int32) - ((8 : Int32) * w15.1)).toUInt32 &&& Int32.toUInt32 31)).toInt32 &&& (255 : Int32)))) rfl ?_
    obtain rfl := Option.some.inj h
    exact zr_wk [some (.ref 1), some (.int x1), some (.int (w15.1 + (1 : Int32)))] ⟨rfl, rfl, rfl, trivial⟩ (hn ((w15.1 + (1 : Int32)), (zsi w15.2 2 ((w15.2.1 1 1) + w15.1).toNatClampNeg ((x1.toUInt32 >>> (((24 : Int32) - ((8 : Int32) * w15.1)).toUInt32 &&& Int32.toUInt32 31)).toInt32 &&& (255 : Int32)))) rfl)
def fX8_addFour (n : Nat) (s : zs) (x1 : Int32) : Option (Int32 × zs) := if ((s.1 1 1) + (4 : Int32)) ≤ (80 : Int32) then zp (zl (fX8_addFour_B15 n x1) n ((0 : Int32), s)) (fun w4 => some ((1 : Int32), (zsi w4 1 1 ((w4.1 1 1) + (4 : Int32))))) else some ((0 : Int32), s)
theorem tX8_addFour {n : Nat} {c : Nat × Nat} {s : zs} {x1 : Int32} {r : Int32} {s' : zs} (h : fX8_addFour n s x1 = some (r, s')) : zc 1 1602 [.ref 1, .int x1] (zS c s) (some (.int r)) (zS c s') := by
  refine zc_of (k := kX8_addFour) (rt := 2) (L := [some (.ref 1), some (.int x1), none]) zm_1602.1 rfl rfl (by decide) rfl rfl ?_
  unfold fX8_addFour at h
  refine zr_many 1 (pc' := 1) (L' := [some (.ref 1), some (.int x1), none]) (st' := [.ref 1]) (S1 := zS c s) rfl ?_
  refine zq_get rfl (zh_1 _) rfl rfl rfl ?_
  refine zr_many 3 (pc' := 8) (L' := [some (.ref 1), some (.int x1), none]) (st' := [.int (80 : Int32), .int ((s.1 1 1) + (4 : Int32))]) (S1 := zS c s) rfl ?_
  refine zq_if2 (b := ((s.1 1 1) + (4 : Int32)) ≤ (80 : Int32)) rfl Iff.rfl rfl (fun g1 => ?_) (fun g1 => ?_)
  · rw [if_pos g1] at h
    refine zr_many 2 (pc' := 15) (L' := [some (.ref 1), some (.int x1), some (.int (0 : Int32))]) (st' := []) (S1 := zS c s) rfl ?_
    obtain ⟨w4, g5, h⟩ := zp_inv h
    refine zr_wk [some (.ref 1), some (.int x1), some (.int (0 : Int32))] ⟨rfl, rfl, rfl, trivial⟩ (zl_cert (Z := fun w15 => zr kX8_addFour 2 0 15 [some (.ref 1), some (.int x1), some (.int w15.1)] [] (zS c w15.2) _ _) (Y := (fun z => zr kX8_addFour 2 0 50 [some (.ref 1), none, none] [] (zS c z) _ _)) (fun w o h1 h2 h3 => tX8_addFour_B15 h1 h2 h3) n _ _ g5 ?_)
    show zr kX8_addFour 2 0 50 [some (.ref 1), none, none] [] (zS c w4) _ _
    refine zr_many 2 (pc' := 52) (L' := [some (.ref 1), none, none]) (st' := [.ref 1, .ref 1]) (S1 := zS c w4) rfl ?_
    refine zq_get rfl (zh_1 _) rfl rfl rfl ?_
    refine zr_many 2 (pc' := 57) (L' := [some (.ref 1), none, none]) (st' := [.int ((w4.1 1 1) + (4 : Int32)), .ref 1]) (S1 := zS c w4) rfl ?_
    refine zq_put (s' := (zsi w4 1 1 ((w4.1 1 1) + (4 : Int32)))) rfl (zh_1 _) rfl rfl rfl rfl zsi_ne rfl ?_
    refine zr_many 1 (pc' := 61) (L' := [some (.ref 1), none, none]) (st' := [.int (1 : Int32)]) (S1 := zS c (zsi w4 1 1 ((w4.1 1 1) + (4 : Int32)))) rfl ?_
    obtain ⟨rfl, rfl⟩ := Prod.mk.inj (Option.some.inj h)
    exact zq_zret rfl (by decide)
  · rw [if_neg g1] at h
    refine zr_many 1 (pc' := 12) (L' := [some (.ref 1), some (.int x1), none]) (st' := [.int (0 : Int32)]) (S1 := zS c s) rfl ?_
    obtain ⟨rfl, rfl⟩ := Prod.mk.inj (Option.some.inj h)
    exact zq_zret rfl (by decide)
def fX8_cutTo_J12 (n : Nat) (s : zs) : Option (Int32 × zs) := some ((0 : Int32), s)
theorem tX8_cutTo_J12 {n : Nat} {c : Nat × Nat} {s : zs} {r : Int32} {s' : zs} (h : fX8_cutTo_J12 n s = some (r, s')) : zr kX8_cutTo 2 0 12 [none, none] [] (zS c s) (some (.int r)) (zS c s') := by
  unfold fX8_cutTo_J12 at h
  refine zr_many 1 (pc' := 13) (L' := [none, none]) (st' := [.int (0 : Int32)]) (S1 := zS c s) rfl ?_
  obtain ⟨rfl, rfl⟩ := Prod.mk.inj (Option.some.inj h)
  exact zq_zret rfl (by decide)
def fX8_cutTo (n : Nat) (s : zs) (x1 : Int32) : Option (Int32 × zs) := if x1 < 0 then fX8_cutTo_J12 n s else if x1 ≤ (s.1 1 1) then some ((1 : Int32), (zsi s 1 1 x1)) else fX8_cutTo_J12 n s
theorem tX8_cutTo {n : Nat} {c : Nat × Nat} {s : zs} {x1 : Int32} {r : Int32} {s' : zs} (h : fX8_cutTo n s x1 = some (r, s')) : zc 1 1603 [.ref 1, .int x1] (zS c s) (some (.int r)) (zS c s') := by
  refine zc_of (k := kX8_cutTo) (rt := 2) (L := [some (.ref 1), some (.int x1)]) zm_1603.1 rfl rfl (by decide) rfl rfl ?_
  unfold fX8_cutTo at h
  refine zr_many 1 (pc' := 1) (L' := [some (.ref 1), some (.int x1)]) (st' := [.int x1]) (S1 := zS c s) rfl ?_
  refine zq_if1 (b := x1 < 0) rfl Iff.rfl rfl (fun g1 => ?_) (fun g1 => ?_)
  · rw [if_pos g1] at h
    exact zr_wk [none, none] trivial (tX8_cutTo_J12 h)
  · rw [if_neg g1] at h
    refine zr_many 2 (pc' := 6) (L' := [some (.ref 1), some (.int x1)]) (st' := [.ref 1, .int x1]) (S1 := zS c s) rfl ?_
    refine zq_get rfl (zh_1 _) rfl rfl rfl ?_
    refine zq_if2 (b := x1 ≤ (s.1 1 1)) rfl Iff.rfl rfl (fun g2 => ?_) (fun g2 => ?_)
    · rw [if_pos g2] at h
      refine zr_many 2 (pc' := 16) (L' := [some (.ref 1), some (.int x1)]) (st' := [.int x1, .ref 1]) (S1 := zS c s) rfl ?_
      refine zq_put (s' := (zsi s 1 1 x1)) rfl (zh_1 _) rfl rfl rfl rfl zsi_ne rfl ?_
      refine zr_many 1 (pc' := 20) (L' := [some (.ref 1), some (.int x1)]) (st' := [.int (1 : Int32)]) (S1 := zS c (zsi s 1 1 x1)) rfl ?_
      obtain ⟨rfl, rfl⟩ := Prod.mk.inj (Option.some.inj h)
      exact zq_zret rfl (by decide)
    · rw [if_neg g2] at h
      exact zr_wk [none, none] trivial (tX8_cutTo_J12 h)
def fX8_clear (n : Nat) (s : zs) : Option zs := some (zsi s 1 1 (0 : Int32))
theorem tX8_clear {n : Nat} {c : Nat × Nat} {s : zs} {s' : zs} (h : fX8_clear n s = some s') : zc 1 1604 [.ref 1] (zS c s) none (zS c s') := by
  refine zc_of (k := kX8_clear) (rt := 0) (L := [some (.ref 1)]) zm_1604.1 rfl rfl (by decide) rfl rfl ?_
  unfold fX8_clear at h
  refine zr_many 2 (pc' := 2) (L' := [some (.ref 1)]) (st' := [.int (0 : Int32), .ref 1]) (S1 := zS c s) rfl ?_
  refine zq_put (s' := (zsi s 1 1 (0 : Int32))) rfl (zh_1 _) rfl rfl rfl rfl zsi_ne rfl ?_
  obtain rfl := Option.some.inj h
  exact zq_vret rfl
def fX9_way_J15 (n : Nat) (s : zs) (y0 : Int32) : Option Int32 := some y0
theorem tX9_way_J15 {n : Nat} {c : Nat × Nat} {s : zs} {y0 : Int32} {r : Int32} (h : fX9_way_J15 n s y0 = some r) : zr kX9_way 1 0 15 [none, none, none, none] [.int y0] (zS c s) (some (.int r)) (zS c s) := by
  unfold fX9_way_J15 at h
  obtain rfl := Option.some.inj h
  exact zq_iret rfl
def fX9_way (n : Nat) (s : zs) (m1 : Nat) (x2 : Int32) (x3 : Int32) : Option Int32 := cond (zi_in x2 4) (if x3 ≤ (s.1 (m1 + 4) x2.toNatClampNeg) then fX9_way_J15 n s (0 : Int32) else fX9_way_J15 n s (1 : Int32)) none
theorem tX9_way {n : Nat} {c : Nat × Nat} {s : zs} {m1 : Nat} {x2 : Int32} {x3 : Int32} {r : Int32} (hm1 : zM m1) (h : fX9_way n s m1 x2 x3 = some r) : zc 1 1801 [.ref 38, .ref m1, .int x2, .int x3] (zS c s) (some (.int r)) (zS c s) := by
  refine zc_of (k := kX9_way) (rt := 1) (L := [some (.ref 38), some (.ref m1), some (.int x2), some (.int x3)]) zm_1801.1 rfl rfl (by decide) rfl rfl ?_
  unfold fX9_way at h
  refine zr_many 1 (pc' := 1) (L' := [some (.ref 38), some (.ref m1), some (.int x2), some (.int x3)]) (st' := [.ref m1]) (S1 := zS c s) rfl ?_
  refine zq_get rfl (zhM_0 hm1 _) (zM_lt (j := 0) hm1 (by decide)) rfl rfl ?_
  refine zr_many 1 (pc' := 5) (L' := [some (.ref 38), some (.ref m1), some (.int x2), some (.int x3)]) (st' := [.int x2, .ref (m1 + 4)]) (S1 := zS c s) rfl ?_
  obtain ⟨g1, h⟩ := zi_cond_inv h
  refine zq_ild rfl (zhM_4 hm1 _) (zM_lt (j := 4) hm1 (by decide)) g1 rfl ?_
  refine zr_many 1 (pc' := 7) (L' := [some (.ref 38), some (.ref m1), some (.int x2), some (.int x3)]) (st' := [.int x3, .int (s.1 (m1 + 4) x2.toNatClampNeg)]) (S1 := zS c s) rfl ?_
  refine zq_if2 (b := x3 ≤ (s.1 (m1 + 4) x2.toNatClampNeg)) rfl Iff.rfl rfl (fun g2 => ?_) (fun g2 => ?_)
  · rw [if_pos g2] at h
    refine zr_many 1 (pc' := 15) (L' := [some (.ref 38), some (.ref m1), some (.int x2), some (.int x3)]) (st' := [.int (0 : Int32)]) (S1 := zS c s) rfl ?_
    exact zr_wk [none, none, none, none] trivial (tX9_way_J15 h)
  · rw [if_neg g2] at h
    refine zr_many 2 (pc' := 15) (L' := [some (.ref 38), some (.ref m1), some (.int x2), some (.int x3)]) (st' := [.int (1 : Int32)]) (S1 := zS c s) rfl ?_
    exact zr_wk [none, none, none, none] trivial (tX9_way_J15 h)
def fX9_lockAhead_J42 (n : Nat) (s : zs) (y0 : Int32) : Option Int32 := some y0
theorem tX9_lockAhead_J42 {n : Nat} {c : Nat × Nat} {s : zs} {y0 : Int32} {r : Int32} (h : fX9_lockAhead_J42 n s y0 = some r) : zr kX9_lockAhead 1 1 42 [none, none, none, none, none] [.int y0] (zS c s) (some (.int r)) (zS c s) := by
  unfold fX9_lockAhead_J42 at h
  obtain rfl := Option.some.inj h
  exact zq_iret rfl
def fX9_lockAhead_J22 (n : Nat) (s : zs) (y0 : Int32) : Option Int32 := zp (fX0_hasLock n s y0) (fun r3 => if r3 = 0 then fX9_lockAhead_J42 n s (-1 : Int32) else fX9_lockAhead_J42 n s y0)
theorem tX9_lockAhead_J22 {n : Nat} {c : Nat × Nat} {s : zs} {y0 : Int32} {r : Int32} (h : fX9_lockAhead_J22 n s y0 = some r) : zr kX9_lockAhead 1 1 22 [some (.ref 38), none, none, none, none] [.int y0] (zS c s) (some (.int r)) (zS c s) := by
  unfold fX9_lockAhead_J22 at h
  refine zr_many 2 (pc' := 25) (L' := [some (.ref 38), none, none, none, some (.int y0)]) (st' := [.ref 38]) (S1 := zS c s) rfl ?_
  refine zq_get rfl (zh_38 _) rfl rfl rfl ?_
  refine zr_many 1 (pc' := 30) (L' := [some (.ref 38), none, none, none, some (.int y0)]) (st' := [.int y0, .ref 5]) (S1 := zS c s) rfl ?_
  obtain ⟨r3, g5, h⟩ := zp_inv h
  refine zq_call1 rfl rfl (zh_5 _) rfl rfl rfl (tX0_hasLock g5) rfl ?_
  refine zq_if1 (b := r3 = 0) rfl Iff.rfl rfl (fun g6 => ?_) (fun g6 => ?_)
  · rw [if_pos g6] at h
    refine zr_many 1 (pc' := 42) (L' := [some (.ref 38), none, none, none, some (.int y0)]) (st' := [.int (-1 : Int32)]) (S1 := zS c s) rfl ?_
    exact zr_wk [none, none, none, none, none] trivial (tX9_lockAhead_J42 h)
  · rw [if_neg g6] at h
    refine zr_many 2 (pc' := 42) (L' := [some (.ref 38), none, none, none, some (.int y0)]) (st' := [.int y0]) (S1 := zS c s) rfl ?_
    exact zr_wk [none, none, none, none, none] trivial (tX9_lockAhead_J42 h)
def fX9_lockAhead (n : Nat) (s : zs) (m1 : Nat) (x2 : Int32) (x3 : Int32) : Option Int32 := if ¬ x3 = (1 : Int32) then cond (zi_in x2 4) (fX9_lockAhead_J22 n s ((s.1 (m1 + 4) x2.toNatClampNeg) - (1 : Int32))) none else cond (zi_in x2 4) (fX9_lockAhead_J22 n s (s.1 (m1 + 4) x2.toNatClampNeg)) none
theorem tX9_lockAhead {n : Nat} {c : Nat × Nat} {s : zs} {m1 : Nat} {x2 : Int32} {x3 : Int32} {r : Int32} (hm1 : zM m1) (h : fX9_lockAhead n s m1 x2 x3 = some r) : zc 2 1802 [.ref 38, .ref m1, .int x2, .int x3] (zS c s) (some (.int r)) (zS c s) := by
  refine zc_of (k := kX9_lockAhead) (rt := 1) (L := [some (.ref 38), some (.ref m1), some (.int x2), some (.int x3), none]) zm_1802.1 rfl rfl (by decide) rfl rfl ?_
  unfold fX9_lockAhead at h
  refine zr_many 2 (pc' := 2) (L' := [some (.ref 38), some (.ref m1), some (.int x2), some (.int x3), none]) (st' := [.int (1 : Int32), .int x3]) (S1 := zS c s) rfl ?_
  refine zq_if2 (b := ¬ x3 = (1 : Int32)) rfl Iff.rfl rfl (fun g1 => ?_) (fun g1 => ?_)
  · rw [if_pos g1] at h
    refine zr_many 1 (pc' := 15) (L' := [some (.ref 38), some (.ref m1), some (.int x2), some (.int x3), none]) (st' := [.ref m1]) (S1 := zS c s) rfl ?_
    refine zq_get rfl (zhM_0 hm1 _) (zM_lt (j := 0) hm1 (by decide)) rfl rfl ?_
    refine zr_many 1 (pc' := 19) (L' := [some (.ref 38), some (.ref m1), some (.int x2), some (.int x3), none]) (st' := [.int x2, .ref (m1 + 4)]) (S1 := zS c s) rfl ?_
    obtain ⟨g2, h⟩ := zi_cond_inv h
    refine zq_ild rfl (zhM_4 hm1 _) (zM_lt (j := 4) hm1 (by decide)) g2 rfl ?_
    refine zr_many 2 (pc' := 22) (L' := [some (.ref 38), some (.ref m1), some (.int x2), some (.int x3), none]) (st' := [.int ((s.1 (m1 + 4) x2.toNatClampNeg) - (1 : Int32))]) (S1 := zS c s) rfl ?_
    exact zr_wk [some (.ref 38), none, none, none, none] ⟨rfl, trivial⟩ (tX9_lockAhead_J22 h)
  · rw [if_neg g1] at h
    refine zr_many 1 (pc' := 6) (L' := [some (.ref 38), some (.ref m1), some (.int x2), some (.int x3), none]) (st' := [.ref m1]) (S1 := zS c s) rfl ?_
    refine zq_get rfl (zhM_0 hm1 _) (zM_lt (j := 0) hm1 (by decide)) rfl rfl ?_
    refine zr_many 1 (pc' := 10) (L' := [some (.ref 38), some (.ref m1), some (.int x2), some (.int x3), none]) (st' := [.int x2, .ref (m1 + 4)]) (S1 := zS c s) rfl ?_
    obtain ⟨g7, h⟩ := zi_cond_inv h
    refine zq_ild rfl (zhM_4 hm1 _) (zM_lt (j := 4) hm1 (by decide)) g7 rfl ?_
    refine zr_many 1 (pc' := 22) (L' := [some (.ref 38), some (.ref m1), some (.int x2), some (.int x3), none]) (st' := [.int (s.1 (m1 + 4) x2.toNatClampNeg)]) (S1 := zS c s) rfl ?_
    exact zr_wk [some (.ref 38), none, none, none, none] ⟨rfl, trivial⟩ (tX9_lockAhead_J22 h)
def fX9_waterFor_J14 (n : Nat) (s : zs) (y0 : Int32) : Option Int32 := some y0
theorem tX9_waterFor_J14 {n : Nat} {c : Nat × Nat} {s : zs} {y0 : Int32} {r : Int32} (h : fX9_waterFor_J14 n s y0 = some r) : zr kX9_waterFor 1 1 14 [none, none, none] [.int y0] (zS c s) (some (.int r)) (zS c s) := by
  unfold fX9_waterFor_J14 at h
  obtain rfl := Option.some.inj h
  exact zq_iret rfl
def fX9_waterFor (n : Nat) (s : zs) (m0 : Nat) (x1 : Int32) (x2 : Int32) : Option Int32 := if ¬ x2 = (1 : Int32) then fX9_waterFor_J14 n s (1 : Int32) else zp (fX3_levelOf n s m0 x1) (fun r2 => fX9_waterFor_J14 n s r2)
theorem tX9_waterFor {n : Nat} {c : Nat × Nat} {s : zs} {m0 : Nat} {x1 : Int32} {x2 : Int32} {r : Int32} (hm0 : zM m0) (h : fX9_waterFor n s m0 x1 x2 = some r) : zc 2 1804 [.ref m0, .int x1, .int x2] (zS c s) (some (.int r)) (zS c s) := by
  refine zc_of (k := kX9_waterFor) (rt := 1) (L := [some (.ref m0), some (.int x1), some (.int x2)]) zm_1804.1 rfl rfl (by decide) rfl rfl ?_
  unfold fX9_waterFor at h
  refine zr_many 2 (pc' := 2) (L' := [some (.ref m0), some (.int x1), some (.int x2)]) (st' := [.int (1 : Int32), .int x2]) (S1 := zS c s) rfl ?_
  refine zq_if2 (b := ¬ x2 = (1 : Int32)) rfl Iff.rfl rfl (fun g1 => ?_) (fun g1 => ?_)
  · rw [if_pos g1] at h
    refine zr_many 1 (pc' := 14) (L' := [some (.ref m0), some (.int x1), some (.int x2)]) (st' := [.int (1 : Int32)]) (S1 := zS c s) rfl ?_
    exact zr_wk [none, none, none] trivial (tX9_waterFor_J14 h)
  · rw [if_neg g1] at h
    refine zr_many 2 (pc' := 7) (L' := [some (.ref m0), some (.int x1), some (.int x2)]) (st' := [.int x1, .ref m0]) (S1 := zS c s) rfl ?_
    obtain ⟨r2, g4, h⟩ := zp_inv h
    refine zq_call1 rfl rfl (zhM_0 hm0 _) rfl (zM_lt (j := 0) hm0 (by decide)) rfl (tX3_levelOf hm0 g4) rfl ?_
    refine zr_many 1 (pc' := 14) (L' := [some (.ref m0), some (.int x1), some (.int x2)]) (st' := [.int r2]) (S1 := zS c s) rfl ?_
    exact zr_wk [none, none, none] trivial (tX9_waterFor_J14 h)
def fX9_hindrance_J20 (n : Nat) (s : zs) : Option (Int32 × zs) := some ((-1 : Int32), s)
theorem tX9_hindrance_J20 {n : Nat} {c : Nat × Nat} {s : zs} {r : Int32} {s' : zs} (h : fX9_hindrance_J20 n s = some (r, s')) : zr kX9_hindrance 1 4 20 [none, none, none, none, none] [] (zS c s) (some (.int r)) (zS c s') := by
  unfold fX9_hindrance_J20 at h
  refine zr_many 1 (pc' := 21) (L' := [none, none, none, none, none]) (st' := [.int (-1 : Int32)]) (S1 := zS c s) rfl ?_
  obtain ⟨rfl, rfl⟩ := Prod.mk.inj (Option.some.inj h)
  exact zq_iret rfl
def fX9_hindrance_J92 (n : Nat) (s : zs) (y0 : Int32) : Option (Int32 × zs) := some (y0, s)
theorem tX9_hindrance_J92 {n : Nat} {c : Nat × Nat} {s : zs} {y0 : Int32} {r : Int32} {s' : zs} (h : fX9_hindrance_J92 n s y0 = some (r, s')) : zr kX9_hindrance 1 4 92 [none, none, none, none, none] [.int y0] (zS c s) (some (.int r)) (zS c s') := by
  unfold fX9_hindrance_J92 at h
  obtain ⟨rfl, rfl⟩ := Prod.mk.inj (Option.some.inj h)
  exact zq_iret rfl
def fX9_hindrance (n : Nat) (s : zs) (m1 : Nat) (x2 : Int32) (x3 : Int32) : Option (Int32 × zs) := zp (fX0_hasBarge n s x2) (fun r1 => if r1 = 0 then fX9_hindrance_J20 n s else if x3 < 0 then fX9_hindrance_J20 n s else if x3 ≤ (1 : Int32) then zp (fX9_lockAhead n s m1 x2 x3) (fun r7 => if 0 ≤ r7 then zp (fX1_gather n s m1 r7 (0 : Int32)) (fun s12 => zp (fX0_crewOf n s12 m1 x2) (fun r14 => zb (fX1_settle n s12 r14) (fun r17 s18 => if ¬ r17 = 0 then zp (fX9_waterFor n s18 m1 r7 x3) (fun r21 => if r21 ≤ (s18.1 m1 1) then fX9_hindrance_J92 n s18 (0 : Int32) else fX9_hindrance_J92 n s18 (-4 : Int32)) else some ((-3 : Int32), s18)))) else some ((-2 : Int32), s)) else fX9_hindrance_J20 n s)
theorem tX9_hindrance {n : Nat} {c : Nat × Nat} {s : zs} {m1 : Nat} {x2 : Int32} {x3 : Int32} {r : Int32} {s' : zs} (hm1 : zM m1) (h : fX9_hindrance n s m1 x2 x3 = some (r, s')) : zc 5 1803 [.ref 38, .ref m1, .int x2, .int x3] (zS c s) (some (.int r)) (zS c s') := by
  refine zc_of (k := kX9_hindrance) (rt := 1) (L := [some (.ref 38), some (.ref m1), some (.int x2), some (.int x3), none]) zm_1803.1 rfl rfl (by decide) rfl rfl ?_
  unfold fX9_hindrance at h
  refine zr_many 1 (pc' := 1) (L' := [some (.ref 38), some (.ref m1), some (.int x2), some (.int x3), none]) (st' := [.ref 38]) (S1 := zS c s) rfl ?_
  refine zq_get rfl (zh_38 _) rfl rfl rfl ?_
  refine zr_many 1 (pc' := 5) (L' := [some (.ref 38), some (.ref m1), some (.int x2), some (.int x3), none]) (st' := [.int x2, .ref 5]) (S1 := zS c s) rfl ?_
  obtain ⟨r1, g3, h⟩ := zp_inv h
  refine zq_call1 rfl rfl (zh_5 _) rfl rfl rfl ((tX0_hasBarge g3).up (by decide)) rfl ?_
  refine zq_if1 (b := r1 = 0) rfl Iff.rfl rfl (fun g4 => ?_) (fun g4 => ?_)
  · rw [if_pos g4] at h
    exact zr_wk [none, none, none, none, none] trivial (tX9_hindrance_J20 h)
  · rw [if_neg g4] at h
    refine zr_many 1 (pc' := 12) (L' := [some (.ref 38), some (.ref m1), some (.int x2), some (.int x3), none]) (st' := [.int x3]) (S1 := zS c s) rfl ?_
    refine zq_if1 (b := x3 < 0) rfl Iff.rfl rfl (fun g5 => ?_) (fun g5 => ?_)
    · rw [if_pos g5] at h
      exact zr_wk [none, none, none, none, none] trivial (tX9_hindrance_J20 h)
    · rw [if_neg g5] at h
      refine zr_many 2 (pc' := 17) (L' := [some (.ref 38), some (.ref m1), some (.int x2), some (.int x3), none]) (st' := [.int (1 : Int32), .int x3]) (S1 := zS c s) rfl ?_
      refine zq_if2 (b := x3 ≤ (1 : Int32)) rfl Iff.rfl rfl (fun g6 => ?_) (fun g6 => ?_)
      · rw [if_pos g6] at h
        refine zr_many 4 (pc' := 26) (L' := [some (.ref 38), some (.ref m1), some (.int x2), some (.int x3), none]) (st' := [.int x3, .int x2, .ref m1, .ref 38]) (S1 := zS c s) rfl ?_
        obtain ⟨r7, g9, h⟩ := zp_inv h
        refine zq_call1 rfl rfl (zh_38 _) rfl rfl rfl ((tX9_lockAhead hm1 g9).up (by decide)) rfl ?_
        refine zr_many 2 (pc' := 33) (L' := [some (.ref 38), some (.ref m1), some (.int x2), some (.int x3), some (.int r7)]) (st' := [.int r7]) (S1 := zS c s) rfl ?_
        refine zq_if1 (b := 0 ≤ r7) rfl Iff.rfl rfl (fun g10 => ?_) (fun g10 => ?_)
        · rw [if_pos g10] at h
          refine zr_many 1 (pc' := 40) (L' := [some (.ref 38), some (.ref m1), some (.int x2), some (.int x3), some (.int r7)]) (st' := [.ref 38]) (S1 := zS c s) rfl ?_
          refine zq_get rfl (zh_38 _) rfl rfl rfl ?_
          refine zr_many 3 (pc' := 47) (L' := [some (.ref 38), some (.ref m1), some (.int x2), some (.int x3), some (.int r7)]) (st' := [.int (0 : Int32), .int r7, .ref m1, .ref 35]) (S1 := zS c s) rfl ?_
          obtain ⟨s12, g13, h⟩ := zp_inv h
          refine zq_call0 rfl rfl (zh_35 _) rfl rfl rfl ((tX1_gather hm1 g13).up (by decide)) rfl ?_
          refine zr_many 1 (pc' := 51) (L' := [some (.ref 38), some (.ref m1), some (.int x2), some (.int x3), some (.int r7)]) (st' := [.ref 38]) (S1 := zS c s12) rfl ?_
          refine zq_get rfl (zh_38 _) rfl rfl rfl ?_
          refine zr_many 1 (pc' := 55) (L' := [some (.ref 38), some (.ref m1), some (.int x2), some (.int x3), some (.int r7)]) (st' := [.ref 38, .ref 35]) (S1 := zS c s12) rfl ?_
          refine zq_get rfl (zh_38 _) rfl rfl rfl ?_
          refine zr_many 2 (pc' := 60) (L' := [some (.ref 38), some (.ref m1), some (.int x2), some (.int x3), some (.int r7)]) (st' := [.int x2, .ref m1, .ref 5, .ref 35]) (S1 := zS c s12) rfl ?_
          obtain ⟨r14, g16, h⟩ := zp_inv h
          refine zq_call1 rfl rfl (zh_5 _) rfl rfl rfl ((tX0_crewOf hm1 g16).up (by decide)) rfl ?_
          obtain ⟨r17, s18, g19, h⟩ := zb_inv h
          refine zq_call1 rfl rfl (zh_35 _) rfl rfl rfl (tX1_settle g19) rfl ?_
          refine zq_if1 (b := ¬ r17 = 0) rfl Iff.rfl rfl (fun g20 => ?_) (fun g20 => ?_)
          · rw [if_pos g20] at h
            refine zr_many 1 (pc' := 73) (L' := [some (.ref 38), some (.ref m1), some (.int x2), some (.int x3), some (.int r7)]) (st' := [.ref m1]) (S1 := zS c s18) rfl ?_
            refine zq_get rfl (zhM_0 hm1 _) (zM_lt (j := 0) hm1 (by decide)) rfl rfl ?_
            refine zr_many 3 (pc' := 80) (L' := [some (.ref 38), some (.ref m1), some (.int x2), some (.int x3), some (.int r7)]) (st' := [.int x3, .int r7, .ref m1, .int (s18.1 m1 1)]) (S1 := zS c s18) rfl ?_
            obtain ⟨r21, g23, h⟩ := zp_inv h
            refine zq_scall1 rfl (by decide) rfl rfl ((tX9_waterFor hm1 g23).up (by decide)) rfl ?_
            refine zq_if2 (b := r21 ≤ (s18.1 m1 1)) rfl Iff.rfl rfl (fun g24 => ?_) (fun g24 => ?_)
            · rw [if_pos g24] at h
              refine zr_many 1 (pc' := 92) (L' := [some (.ref 38), some (.ref m1), some (.int x2), some (.int x3), some (.int r7)]) (st' := [.int (0 : Int32)]) (S1 := zS c s18) rfl ?_
              exact zr_wk [none, none, none, none, none] trivial (tX9_hindrance_J92 h)
            · rw [if_neg g24] at h
              refine zr_many 2 (pc' := 92) (L' := [some (.ref 38), some (.ref m1), some (.int x2), some (.int x3), some (.int r7)]) (st' := [.int (-4 : Int32)]) (S1 := zS c s18) rfl ?_
              exact zr_wk [none, none, none, none, none] trivial (tX9_hindrance_J92 h)
          · rw [if_neg g20] at h
            refine zr_many 1 (pc' := 71) (L' := [some (.ref 38), some (.ref m1), some (.int x2), some (.int x3), some (.int r7)]) (st' := [.int (-3 : Int32)]) (S1 := zS c s18) rfl ?_
            obtain ⟨rfl, rfl⟩ := Prod.mk.inj (Option.some.inj h)
            exact zq_iret rfl
        · rw [if_neg g10] at h
          refine zr_many 1 (pc' := 38) (L' := [some (.ref 38), some (.ref m1), some (.int x2), some (.int x3), some (.int r7)]) (st' := [.int (-2 : Int32)]) (S1 := zS c s) rfl ?_
          obtain ⟨rfl, rfl⟩ := Prod.mk.inj (Option.some.inj h)
          exact zq_iret rfl
      · rw [if_neg g6] at h
        exact zr_wk [none, none, none, none, none] trivial (tX9_hindrance_J20 h)
def fX9_minutesFor_J84 (n : Nat) (s : zs) (m1 : Nat) (x4 : Int32) (x5 : Int32) (y1 : Int32) (y2 : Int32) : Option (Int32 × zs) := zp (fX7_put n s y1 y2) (fun s23 => zp (fX7_put n s23 (4 : Int32) x4) (fun s26 => zp (fJ6_bitCount_0f7a4 n s26 x5) (fun r28 => zp (fX7_put n s26 (5 : Int32) r28) (fun s32 => zp (fX7_put n s32 (6 : Int32) ((s32.1 m1 2) - (s32.1 m1 2) / (60 : Int32) * (60 : Int32))) (fun s35 => zb (fX7_minutes n s35) (fun r37 s38 => some (r37, s38)))))))
theorem tX9_minutesFor_J84 {n : Nat} {c : Nat × Nat} {s : zs} {m1 : Nat} {x4 : Int32} {x5 : Int32} {y1 : Int32} {y2 : Int32} {r : Int32} {s' : zs} (hm1 : zM m1) (h : fX9_minutesFor_J84 n s m1 x4 x5 y1 y2 = some (r, s')) : zr kX9_minutesFor 1 6 84 [none, some (.ref m1), none, none, some (.int x4), some (.int x5), some (.ref 6)] [.int y2, .int y1, .ref 6] (zS c s) (some (.int r)) (zS c s') := by
  unfold fX9_minutesFor_J84 at h
  obtain ⟨s23, g24, h⟩ := zp_inv h
  refine zq_call0 rfl rfl (zh_6 _) rfl rfl rfl ((tX7_put g24).up (by decide)) rfl ?_
  refine zr_many 3 (pc' := 92) (L' := [none, some (.ref m1), none, none, some (.int x4), some (.int x5), some (.ref 6)]) (st' := [.int x4, .int (4 : Int32), .ref 6]) (S1 := zS c s23) rfl ?_
  obtain ⟨s26, g27, h⟩ := zp_inv h
  refine zq_call0 rfl rfl (zh_6 _) rfl rfl rfl ((tX7_put g27).up (by decide)) rfl ?_
  refine zr_many 3 (pc' := 100) (L' := [none, some (.ref m1), none, none, some (.int x4), some (.int x5), some (.ref 6)]) (st' := [.int x5, .int (5 : Int32), .ref 6]) (S1 := zS c s26) rfl ?_
  obtain ⟨r28, g30, h⟩ := zp_inv h
  refine zq_scall1 rfl (by decide) rfl rfl ((tJ6_bitCount_0f7a4 g30).up (by decide)) rfl ?_
  obtain ⟨s32, g33, h⟩ := zp_inv h
  refine zq_call0 rfl rfl (zh_6 _) rfl rfl rfl ((tX7_put g33).up (by decide)) rfl ?_
  refine zr_many 3 (pc' := 111) (L' := [none, some (.ref m1), none, none, some (.int x4), some (.int x5), some (.ref 6)]) (st' := [.ref m1, .int (6 : Int32), .ref 6]) (S1 := zS c s32) rfl ?_
  refine zq_get rfl (zhM_0 hm1 _) (zM_lt (j := 0) hm1 (by decide)) rfl rfl ?_
  refine zr_many 1 (pc' := 116) (L' := [none, some (.ref m1), none, none, some (.int x4), some (.int x5), some (.ref 6)]) (st' := [.int (60 : Int32), .int (s32.1 m1 2), .int (6 : Int32), .ref 6]) (S1 := zS c s32) rfl ?_
  refine zq_irem rfl (by decide) rfl ?_
  obtain ⟨s35, g36, h⟩ := zp_inv h
  refine zq_call0 rfl rfl (zh_6 _) rfl rfl rfl ((tX7_put g36).up (by decide)) rfl ?_
  refine zr_many 1 (pc' := 122) (L' := [none, some (.ref m1), none, none, some (.int x4), some (.int x5), some (.ref 6)]) (st' := [.ref 6]) (S1 := zS c s35) rfl ?_
  obtain ⟨r37, s38, g39, h⟩ := zb_inv h
  refine zq_call1 rfl rfl (zh_6 _) rfl rfl rfl (tX7_minutes g39) rfl ?_
  obtain ⟨rfl, rfl⟩ := Prod.mk.inj (Option.some.inj h)
  exact zq_iret rfl
def fX9_minutesFor (n : Nat) (s : zs) (m1 : Nat) (x2 : Int32) (x3 : Int32) (x4 : Int32) : Option (Int32 × zs) := zp (fX0_crewOf n s m1 x2) (fun r1 => cond (zi_in x3 8) (zp (fX7_put n s (0 : Int32) (s.1 12 x3.toNatClampNeg)) (fun s6 => zp (fX0_tiredOf n s6 m1 r1) (fun r8 => zp (fX7_put n s6 (1 : Int32) r8) (fun s12 => cond (zi_in x2 4) (zp (fX7_put n s12 (2 : Int32) (s12.1 16 x2.toNatClampNeg)) (fun s16 => zp (fX3_levelOf n s16 m1 x3) (fun r18 => if ¬ r18 = x4 then fX9_minutesFor_J84 n s16 m1 x4 r1 (3 : Int32) (0 : Int32) else fX9_minutesFor_J84 n s16 m1 x4 r1 (3 : Int32) (1 : Int32)))) none)))) none)
theorem tX9_minutesFor {n : Nat} {c : Nat × Nat} {s : zs} {m1 : Nat} {x2 : Int32} {x3 : Int32} {x4 : Int32} {r : Int32} {s' : zs} (hm1 : zM m1) (h : fX9_minutesFor n s m1 x2 x3 x4 = some (r, s')) : zc 7 1806 [.ref 38, .ref m1, .int x2, .int x3, .int x4] (zS c s) (some (.int r)) (zS c s') := by
  refine zc_of (k := kX9_minutesFor) (rt := 1) (L := [some (.ref 38), some (.ref m1), some (.int x2), some (.int x3), some (.int x4), none, none]) zm_1806.1 rfl rfl (by decide) rfl rfl ?_
  unfold fX9_minutesFor at h
  refine zr_many 1 (pc' := 1) (L' := [some (.ref 38), some (.ref m1), some (.int x2), some (.int x3), some (.int x4), none, none]) (st' := [.ref 38]) (S1 := zS c s) rfl ?_
  refine zq_get rfl (zh_38 _) rfl rfl rfl ?_
  refine zr_many 2 (pc' := 6) (L' := [some (.ref 38), some (.ref m1), some (.int x2), some (.int x3), some (.int x4), none, none]) (st' := [.int x2, .ref m1, .ref 5]) (S1 := zS c s) rfl ?_
  obtain ⟨r1, g3, h⟩ := zp_inv h
  refine zq_call1 rfl rfl (zh_5 _) rfl rfl rfl ((tX0_crewOf hm1 g3).up (by decide)) rfl ?_
  refine zr_many 2 (pc' := 12) (L' := [some (.ref 38), some (.ref m1), some (.int x2), some (.int x3), some (.int x4), some (.int r1), none]) (st' := [.ref 38]) (S1 := zS c s) rfl ?_
  refine zq_get rfl (zh_38 _) rfl rfl rfl ?_
  refine zq_get rfl (zh_5 _) rfl rfl rfl ?_
  refine zr_many 4 (pc' := 24) (L' := [some (.ref 38), some (.ref m1), some (.int x2), some (.int x3), some (.int x4), some (.int r1), some (.ref 6)]) (st' := [.ref 38, .int (0 : Int32), .ref 6]) (S1 := zS c s) rfl ?_
  refine zq_get rfl (zh_38 _) rfl rfl rfl ?_
  refine zq_get rfl (zh_5 _) rfl rfl rfl ?_
  refine zr_many 1 (pc' := 31) (L' := [some (.ref 38), some (.ref m1), some (.int x2), some (.int x3), some (.int x4), some (.int r1), some (.ref 6)]) (st' := [.int x3, .ref 12, .int (0 : Int32), .ref 6]) (S1 := zS c s) rfl ?_
  obtain ⟨g4, h⟩ := zi_cond_inv h
  refine zq_ild rfl (zh_12 _) rfl g4 rfl ?_
  obtain ⟨s6, g7, h⟩ := zp_inv h
  refine zq_call0 rfl rfl (zh_6 _) rfl rfl rfl ((tX7_put g7).up (by decide)) rfl ?_
  refine zr_many 3 (pc' := 39) (L' := [some (.ref 38), some (.ref m1), some (.int x2), some (.int x3), some (.int x4), some (.int r1), some (.ref 6)]) (st' := [.ref 38, .int (1 : Int32), .ref 6]) (S1 := zS c s6) rfl ?_
  refine zq_get rfl (zh_38 _) rfl rfl rfl ?_
  refine zr_many 2 (pc' := 45) (L' := [some (.ref 38), some (.ref m1), some (.int x2), some (.int x3), some (.int x4), some (.int r1), some (.ref 6)]) (st' := [.int r1, .ref m1, .ref 5, .int (1 : Int32), .ref 6]) (S1 := zS c s6) rfl ?_
  obtain ⟨r8, g10, h⟩ := zp_inv h
  refine zq_call1 rfl rfl (zh_5 _) rfl rfl rfl ((tX0_tiredOf hm1 g10).up (by decide)) rfl ?_
  obtain ⟨s12, g13, h⟩ := zp_inv h
  refine zq_call0 rfl rfl (zh_6 _) rfl rfl rfl ((tX7_put g13).up (by decide)) rfl ?_
  refine zr_many 3 (pc' := 55) (L' := [some (.ref 38), some (.ref m1), some (.int x2), some (.int x3), some (.int x4), some (.int r1), some (.ref 6)]) (st' := [.ref 38, .int (2 : Int32), .ref 6]) (S1 := zS c s12) rfl ?_
  refine zq_get rfl (zh_38 _) rfl rfl rfl ?_
  refine zq_get rfl (zh_5 _) rfl rfl rfl ?_
  refine zr_many 1 (pc' := 62) (L' := [some (.ref 38), some (.ref m1), some (.int x2), some (.int x3), some (.int x4), some (.int r1), some (.ref 6)]) (st' := [.int x2, .ref 16, .int (2 : Int32), .ref 6]) (S1 := zS c s12) rfl ?_
  obtain ⟨g14, h⟩ := zi_cond_inv h
  refine zq_ild rfl (zh_16 _) rfl g14 rfl ?_
  obtain ⟨s16, g17, h⟩ := zp_inv h
  refine zq_call0 rfl rfl (zh_6 _) rfl rfl rfl ((tX7_put g17).up (by decide)) rfl ?_
  refine zr_many 4 (pc' := 71) (L' := [some (.ref 38), some (.ref m1), some (.int x2), some (.int x3), some (.int x4), some (.int r1), some (.ref 6)]) (st' := [.int x3, .ref m1, .int (3 : Int32), .ref 6]) (S1 := zS c s16) rfl ?_
  obtain ⟨r18, g20, h⟩ := zp_inv h
  refine zq_call1 rfl rfl (zhM_0 hm1 _) rfl (zM_lt (j := 0) hm1 (by decide)) rfl ((tX3_levelOf hm1 g20).up (by decide)) rfl ?_
  refine zr_many 1 (pc' := 76) (L' := [some (.ref 38), some (.ref m1), some (.int x2), some (.int x3), some (.int x4), some (.int r1), some (.ref 6)]) (st' := [.int x4, .int r18, .int (3 : Int32), .ref 6]) (S1 := zS c s16) rfl ?_
  refine zq_if2 (b := ¬ r18 = x4) rfl Iff.rfl rfl (fun g21 => ?_) (fun g21 => ?_)
  · rw [if_pos g21] at h
    refine zr_many 1 (pc' := 84) (L' := [some (.ref 38), some (.ref m1), some (.int x2), some (.int x3), some (.int x4), some (.int r1), some (.ref 6)]) (st' := [.int (0 : Int32), .int (3 : Int32), .ref 6]) (S1 := zS c s16) rfl ?_
    exact zr_wk [none, some (.ref m1), none, none, some (.int x4), some (.int r1), some (.ref 6)] ⟨rfl, rfl, rfl, rfl, trivial⟩ (tX9_minutesFor_J84 hm1 h)
  · rw [if_neg g21] at h
    refine zr_many 2 (pc' := 84) (L' := [some (.ref 38), some (.ref m1), some (.int x2), some (.int x3), some (.int x4), some (.int r1), some (.ref 6)]) (st' := [.int (1 : Int32), .int (3 : Int32), .ref 6]) (S1 := zS c s16) rfl ?_
    exact zr_wk [none, some (.ref m1), none, none, some (.int x4), some (.int r1), some (.ref 6)] ⟨rfl, rfl, rfl, rfl, trivial⟩ (tX9_minutesFor_J84 hm1 h)
def fX9_go_B93 (n : Nat) (m1 : Nat) (x6 : Int32) (w93 : Int32 × zs) : Option ((Int32 × zs) ⊕ (zs)) := if (4 : Int32) ≤ w93.1 then some (Sum.inr w93.2) else cond (zi_in w93.1 4) (cond (zi_in (w93.2.1 37 w93.1.toNatClampNeg) 8) (cond (zi_in (w93.2.1 37 w93.1.toNatClampNeg) 8) (some (Sum.inl ((w93.1 + (1 : Int32)), (zsi w93.2 (m1 + 3) (w93.2.1 37 w93.1.toNatClampNeg).toNatClampNeg (if ((w93.2.1 (m1 + 3) (w93.2.1 37 w93.1.toNatClampNeg).toNatClampNeg) + (1 : Int32)) < (9 : Int32) then ((w93.2.1 (m1 + 3) (w93.2.1 37 w93.1.toNatClampNeg).toNatClampNeg) + (1 : Int32)) else (9 : Int32)))))) none) none) none
theorem tX9_go_B93 {n : Nat} {c : Nat × Nat} {m1 : Nat} {x6 : Int32} {w93 : Int32 × zs} {o : _} {v : Option Value} {S' : zi_S} (hm1 : zM m1) (h : fX9_go_B93 n m1 x6 w93 = some o) (hn : ∀ w93, o = Sum.inl w93 → zr kX9_go 1 7 93 [some (.ref 38), some (.ref m1), none, none, none, none, some (.int x6), some (.int w93.1), none] [] (zS c w93.2) v S') (hx : ∀ z, o = Sum.inr z → (fun z => zr kX9_go 1 7 138 [none, none, none, none, none, none, some (.int x6), none, none] [] (zS c z) v S') z) : zr kX9_go 1 7 93 [some (.ref 38), some (.ref m1), none, none, none, none, some (.int x6), some (.int w93.1), none] [] (zS c w93.2) v S' := by
  unfold fX9_go_B93 at h
  refine zr_many 2 (pc' := 96) (L' := [some (.ref 38), some (.ref m1), none, none, none, none, some (.int x6), some (.int w93.1), none]) (st' := [.int (4 : Int32), .int w93.1]) (S1 := zS c w93.2) rfl ?_
  refine zq_if2 (b := (4 : Int32) ≤ w93.1) rfl Iff.rfl rfl (fun g19 => ?_) (fun g19 => ?_)
  · rw [if_pos g19] at h
    obtain rfl := Option.some.inj h
    exact zr_wk [none, none, none, none, none, none, some (.int x6), none, none] ⟨rfl, trivial⟩ (hx w93.2 rfl)
  · rw [if_neg g19] at h
    refine zr_many 1 (pc' := 100) (L' := [some (.ref 38), some (.ref m1), none, none, none, none, some (.int x6), some (.int w93.1), none]) (st' := [.ref 38]) (S1 := zS c w93.2) rfl ?_
    refine zq_get rfl (zh_38 _) rfl rfl rfl ?_
    refine zq_get rfl (zh_35 _) rfl rfl rfl ?_
    refine zr_many 1 (pc' := 108) (L' := [some (.ref 38), some (.ref m1), none, none, none, none, some (.int x6), some (.int w93.1), none]) (st' := [.int w93.1, .ref 37]) (S1 := zS c w93.2) rfl ?_
    obtain ⟨g20, h⟩ := zi_cond_inv h
    refine zq_ild rfl (zh_37 _) rfl g20 rfl ?_
    refine zr_many 2 (pc' := 112) (L' := [some (.ref 38), some (.ref m1), none, none, none, none, some (.int x6), some (.int w93.1), some (.int (w93.2.1 37 w93.1.toNatClampNeg))]) (st' := [.ref m1]) (S1 := zS c w93.2) rfl ?_
    refine zq_get rfl (zhM_0 hm1 _) (zM_lt (j := 0) hm1 (by decide)) rfl rfl ?_
    refine zr_many 3 (pc' := 120) (L' := [some (.ref 38), some (.ref m1), none, none, none, none, some (.int x6), some (.int w93.1), some (.int (w93.2.1 37 w93.1.toNatClampNeg))]) (st' := [.ref m1, .int (9 : Int32), .int (w93.2.1 37 w93.1.toNatClampNeg), .ref (m1 + 3)]) (S1 := zS c w93.2) rfl ?_
    refine zq_get rfl (zhM_0 hm1 _) (zM_lt (j := 0) hm1 (by decide)) rfl rfl ?_
    refine zr_many 1 (pc' := 125) (L' := [some (.ref 38), some (.ref m1), none, none, none, none, some (.int x6), some (.int w93.1), some (.int (w93.2.1 37 w93.1.toNatClampNeg))]) (st' := [.int (w93.2.1 37 w93.1.toNatClampNeg), .ref (m1 + 3), .int (9 : Int32), .int (w93.2.1 37 w93.1.toNatClampNeg), .ref (m1 + 3)]) (S1 := zS c w93.2) rfl ?_
    obtain ⟨g21, h⟩ := zi_cond_inv h
    refine zq_ild rfl (zhM_3 hm1 _) (zM_lt (j := 3) hm1 (by decide)) g21 rfl ?_
    refine zr_many 3 (pc' := 131) (L' := [some (.ref 38), some (.ref m1), none, none, none, none, some (.int x6), some (.int w93.1), some (.int (w93.2.1 37 w93.1.toNatClampNeg))]) (st' := [.int (if ((w93.2.1 (m1 + 3) (w93.2.1 37 w93.1.toNatClampNeg).toNatClampNeg) + (1 : Int32)) < (9 : Int32) then ((w93.2.1 (m1 + 3) (w93.2.1 37 w93.1.toNatClampNeg).toNatClampNeg) + (1 : Int32)) else (9 : Int32)), .int (w93.2.1 37 w93.1.toNatClampNeg), .ref (m1 + 3)]) (S1 := zS c w93.2) rfl ?_
    obtain ⟨g22, h⟩ := zi_cond_inv h
    refine zq_ist rfl (zhM_3 hm1) (zM_lt (j := 3) hm1 (by decide)) g22 rfl ?_
    refine zr_many 2 (pc' := 93) (L' := [some (.ref 38), some (.ref m1), none, none, none, none, some (.int x6), some (.int (w93.1 + (1 : Int32))), some (.int (w93.2.1 37 w93.1.toNatClampNeg))]) (st' := []) (S1 := zS c (zsi w93.2 (m1 + 3) (w93.2.1 37 w93.1.toNatClampNeg).toNatClampNeg (if ((w93.2.1 (m1 + 3) (w93.2.1 37 w93.1.toNatClampNeg).toNatClampNeg) + (1 : Int32)) < (9 : Int32) then ((w93.2.1 (m1 + 3) (w93.2.1 37 w93.1.toNatClampNeg).toNatClampNeg) + (1 : Int32)) else (9 : Int32)))) rfl ?_
    obtain rfl := Option.some.inj h
    exact zr_wk [some (.ref 38), some (.ref m1), none, none, none, none, some (.int x6), some (.int (w93.1 + (1 : Int32))), none] ⟨rfl, rfl, rfl, rfl, trivial⟩ (hn ((w93.1 + (1 : Int32)), (zsi w93.2 (m1 + 3) (w93.2.1 37 w93.1.toNatClampNeg).toNatClampNeg (if ((w93.2.1 (m1 + 3) (w93.2.1 37 w93.1.toNatClampNeg).toNatClampNeg) + (1 : Int32)) < (9 : Int32) then ((w93.2.1 (m1 + 3) (w93.2.1 37 w93.1.toNatClampNeg).toNatClampNeg) + (1 : Int32)) else (9 : Int32)))) rfl)
def fX9_go_J88 (n : Nat) (s : zs) (m1 : Nat) (x6 : Int32) (y1 : Int32) (y2 : Int32) (y3 : Int32) : Option (Int32 × zs) := cond (zi_in y1 4) (zp (zl (fX9_go_B93 n m1 x6) n ((0 : Int32), (zsi s (m1 + 4) y1.toNatClampNeg (y2 + y3)))) (fun w23 => some (x6, w23))) none
theorem tX9_go_J88 {n : Nat} {c : Nat × Nat} {s : zs} {m1 : Nat} {x6 : Int32} {y1 : Int32} {y2 : Int32} {y3 : Int32} {r : Int32} {s' : zs} (hm1 : zM m1) (h : fX9_go_J88 n s m1 x6 y1 y2 y3 = some (r, s')) : zr kX9_go 1 7 88 [some (.ref 38), some (.ref m1), none, none, none, none, some (.int x6), none, none] [.int y3, .int y2, .int y1, .ref (m1 + 4)] (zS c s) (some (.int r)) (zS c s') := by
  unfold fX9_go_J88 at h
  refine zr_many 1 (pc' := 89) (L' := [some (.ref 38), some (.ref m1), none, none, none, none, some (.int x6), none, none]) (st' := [.int (y2 + y3), .int y1, .ref (m1 + 4)]) (S1 := zS c s) rfl ?_
  obtain ⟨g25, h⟩ := zi_cond_inv h
  refine zq_ist rfl (zhM_4 hm1) (zM_lt (j := 4) hm1 (by decide)) g25 rfl ?_
  refine zr_many 2 (pc' := 93) (L' := [some (.ref 38), some (.ref m1), none, none, none, none, some (.int x6), some (.int (0 : Int32)), none]) (st' := []) (S1 := zS c (zsi s (m1 + 4) y1.toNatClampNeg (y2 + y3))) rfl ?_
  obtain ⟨w23, g24, h⟩ := zp_inv h
  refine zr_wk [some (.ref 38), some (.ref m1), none, none, none, none, some (.int x6), some (.int (0 : Int32)), none] ⟨rfl, rfl, rfl, rfl, trivial⟩ (zl_cert (Z := fun w93 => zr kX9_go 1 7 93 [some (.ref 38), some (.ref m1), none, none, none, none, some (.int x6), some (.int w93.1), none] [] (zS c w93.2) _ _) (Y := (fun z => zr kX9_go 1 7 138 [none, none, none, none, none, none, some (.int x6), none, none] [] (zS c z) _ _)) (fun w o h1 h2 h3 => tX9_go_B93 hm1 h1 h2 h3) n _ _ g24 ?_)
  show zr kX9_go 1 7 138 [none, none, none, none, none, none, some (.int x6), none, none] [] (zS c w23) _ _
  refine zr_many 1 (pc' := 140) (L' := [none, none, none, none, none, none, some (.int x6), none, none]) (st' := [.int x6]) (S1 := zS c w23) rfl ?_
  obtain ⟨rfl, rfl⟩ := Prod.mk.inj (Option.some.inj h)
  exact zq_iret rfl
def fX9_go (n : Nat) (s : zs) (m1 : Nat) (x2 : Int32) (x3 : Int32) : Option (Int32 × zs) := zb (fX9_hindrance n s m1 x2 x3) (fun r1 s2 => if 0 ≤ r1 then zp (fX9_lockAhead n s2 m1 x2 x3) (fun r5 => zb (fX9_minutesFor n s2 m1 x2 r5 x3) (fun r8 s9 => zp (fX9_waterFor n s9 m1 r5 x3) (fun r11 => zp (fX3_setLevel n (zsi s9 m1 1 ((s9.1 m1 1) - r11)) m1 r5 x3) (fun s15 => cond (zi_in x2 4) (if ¬ x3 = (1 : Int32) then fX9_go_J88 n (zsi s15 m1 2 ((s15.1 m1 2) + r8)) m1 r8 x2 ((zsi s15 m1 2 ((s15.1 m1 2) + r8)).1 (m1 + 4) x2.toNatClampNeg) (-1 : Int32) else fX9_go_J88 n (zsi s15 m1 2 ((s15.1 m1 2) + r8)) m1 r8 x2 ((zsi s15 m1 2 ((s15.1 m1 2) + r8)).1 (m1 + 4) x2.toNatClampNeg) (1 : Int32)) none)))) else some (r1, s2))
theorem tX9_go {n : Nat} {c : Nat × Nat} {s : zs} {m1 : Nat} {x2 : Int32} {x3 : Int32} {r : Int32} {s' : zs} (hm1 : zM m1) (h : fX9_go n s m1 x2 x3 = some (r, s')) : zc 8 1805 [.ref 38, .ref m1, .int x2, .int x3] (zS c s) (some (.int r)) (zS c s') := by
  refine zc_of (k := kX9_go) (rt := 1) (L := [some (.ref 38), some (.ref m1), some (.int x2), some (.int x3), none, none, none, none, none]) zm_1805.1 rfl rfl (by decide) rfl rfl ?_
  unfold fX9_go at h
  refine zr_many 4 (pc' := 4) (L' := [some (.ref 38), some (.ref m1), some (.int x2), some (.int x3), none, none, none, none, none]) (st' := [.int x3, .int x2, .ref m1, .ref 38]) (S1 := zS c s) rfl ?_
  obtain ⟨r1, s2, g3, h⟩ := zb_inv h
  refine zq_call1 rfl rfl (zh_38 _) rfl rfl rfl ((tX9_hindrance hm1 g3).up (by decide)) rfl ?_
  refine zr_many 2 (pc' := 11) (L' := [some (.ref 38), some (.ref m1), some (.int x2), some (.int x3), some (.int r1), none, none, none, none]) (st' := [.int r1]) (S1 := zS c s2) rfl ?_
  refine zq_if1 (b := 0 ≤ r1) rfl Iff.rfl rfl (fun g4 => ?_) (fun g4 => ?_)
  · rw [if_pos g4] at h
    refine zr_many 4 (pc' := 21) (L' := [some (.ref 38), some (.ref m1), some (.int x2), some (.int x3), some (.int r1), none, none, none, none]) (st' := [.int x3, .int x2, .ref m1, .ref 38]) (S1 := zS c s2) rfl ?_
    obtain ⟨r5, g7, h⟩ := zp_inv h
    refine zq_call1 rfl rfl (zh_38 _) rfl rfl rfl ((tX9_lockAhead hm1 g7).up (by decide)) rfl ?_
    refine zr_many 6 (pc' := 32) (L' := [some (.ref 38), some (.ref m1), some (.int x2), some (.int x3), some (.int r1), some (.int r5), none, none, none]) (st' := [.int x3, .int r5, .int x2, .ref m1, .ref 38]) (S1 := zS c s2) rfl ?_
    obtain ⟨r8, s9, g10, h⟩ := zb_inv h
    refine zq_call1 rfl rfl (zh_38 _) rfl rfl rfl (tX9_minutesFor hm1 g10) rfl ?_
    refine zr_many 3 (pc' := 39) (L' := [some (.ref 38), some (.ref m1), some (.int x2), some (.int x3), some (.int r1), some (.int r5), some (.int r8), none, none]) (st' := [.ref m1, .ref m1]) (S1 := zS c s9) rfl ?_
    refine zq_get rfl (zhM_0 hm1 _) (zM_lt (j := 0) hm1 (by decide)) rfl rfl ?_
    refine zr_many 3 (pc' := 46) (L' := [some (.ref 38), some (.ref m1), some (.int x2), some (.int x3), some (.int r1), some (.int r5), some (.int r8), none, none]) (st' := [.int x3, .int r5, .ref m1, .int (s9.1 m1 1), .ref m1]) (S1 := zS c s9) rfl ?_
    obtain ⟨r11, g13, h⟩ := zp_inv h
    refine zq_scall1 rfl (by decide) rfl rfl ((tX9_waterFor hm1 g13).up (by decide)) rfl ?_
    refine zr_many 1 (pc' := 50) (L' := [some (.ref 38), some (.ref m1), some (.int x2), some (.int x3), some (.int r1), some (.int r5), some (.int r8), none, none]) (st' := [.int ((s9.1 m1 1) - r11), .ref m1]) (S1 := zS c s9) rfl ?_
    refine zq_putM rfl hm1 (by decide) rfl ?_
    refine zr_many 3 (pc' := 57) (L' := [some (.ref 38), some (.ref m1), some (.int x2), some (.int x3), some (.int r1), some (.int r5), some (.int r8), none, none]) (st' := [.int x3, .int r5, .ref m1]) (S1 := zS c (zsi s9 m1 1 ((s9.1 m1 1) - r11))) rfl ?_
    obtain ⟨s15, g16, h⟩ := zp_inv h
    refine zq_call0 rfl rfl (zhM_0 hm1 _) rfl (zM_lt (j := 0) hm1 (by decide)) rfl ((tX3_setLevel hm1 g16).up (by decide)) rfl ?_
    refine zr_many 2 (pc' := 62) (L' := [some (.ref 38), some (.ref m1), some (.int x2), some (.int x3), some (.int r1), some (.int r5), some (.int r8), none, none]) (st' := [.ref m1, .ref m1]) (S1 := zS c s15) rfl ?_
    refine zq_get rfl (zhM_0 hm1 _) (zM_lt (j := 0) hm1 (by decide)) rfl rfl ?_
    refine zr_many 2 (pc' := 68) (L' := [some (.ref 38), some (.ref m1), some (.int x2), some (.int x3), some (.int r1), some (.int r5), some (.int r8), none, none]) (st' := [.int ((s15.1 m1 2) + r8), .ref m1]) (S1 := zS c s15) rfl ?_
    refine zq_putM rfl hm1 (by decide) rfl ?_
    refine zr_many 1 (pc' := 72) (L' := [some (.ref 38), some (.ref m1), some (.int x2), some (.int x3), some (.int r1), some (.int r5), some (.int r8), none, none]) (st' := [.ref m1]) (S1 := zS c (zsi s15 m1 2 ((s15.1 m1 2) + r8))) rfl ?_
    refine zq_get rfl (zhM_0 hm1 _) (zM_lt (j := 0) hm1 (by decide)) rfl rfl ?_
    refine zr_many 2 (pc' := 77) (L' := [some (.ref 38), some (.ref m1), some (.int x2), some (.int x3), some (.int r1), some (.int r5), some (.int r8), none, none]) (st' := [.int x2, .ref (m1 + 4), .int x2, .ref (m1 + 4)]) (S1 := zS c (zsi s15 m1 2 ((s15.1 m1 2) + r8))) rfl ?_
    obtain ⟨g17, h⟩ := zi_cond_inv h
    refine zq_ild rfl (zhM_4 hm1 _) (zM_lt (j := 4) hm1 (by decide)) g17 rfl ?_
    refine zr_many 2 (pc' := 80) (L' := [some (.ref 38), some (.ref m1), some (.int x2), some (.int x3), some (.int r1), some (.int r5), some (.int r8), none, none]) (st' := [.int (1 : Int32), .int x3, .int ((zsi s15 m1 2 ((s15.1 m1 2) + r8)).1 (m1 + 4) x2.toNatClampNeg), .int x2, .ref (m1 + 4)]) (S1 := zS c (zsi s15 m1 2 ((s15.1 m1 2) + r8))) rfl ?_
    refine zq_if2 (b := ¬ x3 = (1 : Int32)) rfl Iff.rfl rfl (fun g18 => ?_) (fun g18 => ?_)
    · rw [if_pos g18] at h
      refine zr_many 1 (pc' := 88) (L' := [some (.ref 38), some (.ref m1), some (.int x2), some (.int x3), some (.int r1), some (.int r5), some (.int r8), none, none]) (st' := [.int (-1 : Int32), .int ((zsi s15 m1 2 ((s15.1 m1 2) + r8)).1 (m1 + 4) x2.toNatClampNeg), .int x2, .ref (m1 + 4)]) (S1 := zS c (zsi s15 m1 2 ((s15.1 m1 2) + r8))) rfl ?_
      exact zr_wk [some (.ref 38), some (.ref m1), none, none, none, none, some (.int r8), none, none] ⟨rfl, rfl, rfl, trivial⟩ (tX9_go_J88 hm1 h)
    · rw [if_neg g18] at h
      refine zr_many 2 (pc' := 88) (L' := [some (.ref 38), some (.ref m1), some (.int x2), some (.int x3), some (.int r1), some (.int r5), some (.int r8), none, none]) (st' := [.int (1 : Int32), .int ((zsi s15 m1 2 ((s15.1 m1 2) + r8)).1 (m1 + 4) x2.toNatClampNeg), .int x2, .ref (m1 + 4)]) (S1 := zS c (zsi s15 m1 2 ((s15.1 m1 2) + r8))) rfl ?_
      exact zr_wk [some (.ref 38), some (.ref m1), none, none, none, none, some (.int r8), none, none] ⟨rfl, rfl, rfl, trivial⟩ (tX9_go_J88 hm1 h)
  · rw [if_neg g4] at h
    refine zr_many 1 (pc' := 16) (L' := [some (.ref 38), some (.ref m1), some (.int x2), some (.int x3), some (.int r1), none, none, none, none]) (st' := [.int r1]) (S1 := zS c s2) rfl ?_
    obtain ⟨rfl, rfl⟩ := Prod.mk.inj (Option.some.inj h)
    exact zq_iret rfl
def fX9_travel_B17 (n : Nat) (m1 : Nat) (x2 : Int32) (x3 : Int32) (x4 : Int32) (w17 : Int32 × zs) : Option ((Int32 × zs) ⊕ ((Int32 × zs) ⊕ (zs))) := if (8 : Int32) ≤ w17.1 then some (Sum.inr (Sum.inr w17.2)) else cond (zi_in x2 4) (if (w17.2.1 (m1 + 4) x2.toNatClampNeg) = x3 then some (Sum.inr (Sum.inr w17.2)) else zb (fX9_go n w17.2 m1 x2 x4) (fun r7 s8 => if 0 ≤ r7 then some (Sum.inl ((w17.1 + (1 : Int32)), (zsi s8 38 4 ((s8.1 38 4) + (1 : Int32))))) else some (Sum.inr (Sum.inl (r7, s8))))) none
theorem tX9_travel_B17 {n : Nat} {c : Nat × Nat} {m1 : Nat} {x2 : Int32} {x3 : Int32} {x4 : Int32} {w17 : Int32 × zs} {o : _} {v : Option Value} {S' : zi_S} (hm1 : zM m1) (h : fX9_travel_B17 n m1 x2 x3 x4 w17 = some o) (hn : ∀ w17, o = Sum.inl w17 → zr kX9_travel 1 8 17 [some (.ref 38), some (.ref m1), some (.int x2), some (.int x3), some (.int x4), some (.int w17.1), none] [] (zS c w17.2) v S') (hx : ∀ z, o = Sum.inr z → (Sum.elim (fun z => zr kX9_travel 1 8 49 [none, none, none, none, none, none, some (.int z.1)] [] (zS c z.2) v S') (fun z => zr kX9_travel 1 8 68 [none, none, none, none, none, none, none] [] (zS c z) v S')) z) : zr kX9_travel 1 8 17 [some (.ref 38), some (.ref m1), some (.int x2), some (.int x3), some (.int x4), some (.int w17.1), none] [] (zS c w17.2) v S' := by
  unfold fX9_travel_B17 at h
  refine zr_many 2 (pc' := 21) (L' := [some (.ref 38), some (.ref m1), some (.int x2), some (.int x3), some (.int x4), some (.int w17.1), none]) (st' := [.int (8 : Int32), .int w17.1]) (S1 := zS c w17.2) rfl ?_
  refine zq_if2 (b := (8 : Int32) ≤ w17.1) rfl Iff.rfl rfl (fun g4 => ?_) (fun g4 => ?_)
  · rw [if_pos g4] at h
    obtain rfl := Option.some.inj h
    exact zr_wk [none, none, none, none, none, none, none] trivial (hx (Sum.inr w17.2) rfl)
  · rw [if_neg g4] at h
    refine zr_many 1 (pc' := 25) (L' := [some (.ref 38), some (.ref m1), some (.int x2), some (.int x3), some (.int x4), some (.int w17.1), none]) (st' := [.ref m1]) (S1 := zS c w17.2) rfl ?_
    refine zq_get rfl (zhM_0 hm1 _) (zM_lt (j := 0) hm1 (by decide)) rfl rfl ?_
    refine zr_many 1 (pc' := 29) (L' := [some (.ref 38), some (.ref m1), some (.int x2), some (.int x3), some (.int x4), some (.int w17.1), none]) (st' := [.int x2, .ref (m1 + 4)]) (S1 := zS c w17.2) rfl ?_
    obtain ⟨g5, h⟩ := zi_cond_inv h
    refine zq_ild rfl (zhM_4 hm1 _) (zM_lt (j := 4) hm1 (by decide)) g5 rfl ?_
    refine zr_many 1 (pc' := 31) (L' := [some (.ref 38), some (.ref m1), some (.int x2), some (.int x3), some (.int x4), some (.int w17.1), none]) (st' := [.int x3, .int (w17.2.1 (m1 + 4) x2.toNatClampNeg)]) (S1 := zS c w17.2) rfl ?_
    refine zq_if2 (b := (w17.2.1 (m1 + 4) x2.toNatClampNeg) = x3) rfl Iff.rfl rfl (fun g6 => ?_) (fun g6 => ?_)
    · rw [if_pos g6] at h
      obtain rfl := Option.some.inj h
      exact zr_wk [none, none, none, none, none, none, none] trivial (hx (Sum.inr w17.2) rfl)
    · rw [if_neg g6] at h
      refine zr_many 4 (pc' := 39) (L' := [some (.ref 38), some (.ref m1), some (.int x2), some (.int x3), some (.int x4), some (.int w17.1), none]) (st' := [.int x4, .int x2, .ref m1, .ref 38]) (S1 := zS c w17.2) rfl ?_
      obtain ⟨r7, s8, g9, h⟩ := zb_inv h
      refine zq_call1 rfl rfl (zh_38 _) rfl rfl rfl (tX9_go hm1 g9) rfl ?_
      refine zr_many 2 (pc' := 46) (L' := [some (.ref 38), some (.ref m1), some (.int x2), some (.int x3), some (.int x4), some (.int w17.1), some (.int r7)]) (st' := [.int r7]) (S1 := zS c s8) rfl ?_
      refine zq_if1 (b := 0 ≤ r7) rfl Iff.rfl rfl (fun g10 => ?_) (fun g10 => ?_)
      · rw [if_pos g10] at h
        refine zr_many 2 (pc' := 54) (L' := [some (.ref 38), some (.ref m1), some (.int x2), some (.int x3), some (.int x4), some (.int w17.1), some (.int r7)]) (st' := [.ref 38, .ref 38]) (S1 := zS c s8) rfl ?_
        refine zq_get rfl (zh_38 _) rfl rfl rfl ?_
        refine zr_many 2 (pc' := 59) (L' := [some (.ref 38), some (.ref m1), some (.int x2), some (.int x3), some (.int x4), some (.int w17.1), some (.int r7)]) (st' := [.int ((s8.1 38 4) + (1 : Int32)), .ref 38]) (S1 := zS c s8) rfl ?_
        refine zq_put (s' := (zsi s8 38 4 ((s8.1 38 4) + (1 : Int32)))) rfl (zh_38 _) rfl rfl rfl rfl zsi_ne rfl ?_
        refine zr_many 2 (pc' := 17) (L' := [some (.ref 38), some (.ref m1), some (.int x2), some (.int x3), some (.int x4), some (.int (w17.1 + (1 : Int32))), some (.int r7)]) (st' := []) (S1 := zS c (zsi s8 38 4 ((s8.1 38 4) + (1 : Int32)))) rfl ?_
        obtain rfl := Option.some.inj h
        exact zr_wk [some (.ref 38), some (.ref m1), some (.int x2), some (.int x3), some (.int x4), some (.int (w17.1 + (1 : Int32))), none] ⟨rfl, rfl, rfl, rfl, rfl, rfl, trivial⟩ (hn ((w17.1 + (1 : Int32)), (zsi s8 38 4 ((s8.1 38 4) + (1 : Int32)))) rfl)
      · rw [if_neg g10] at h
        obtain rfl := Option.some.inj h
        exact zr_wk [none, none, none, none, none, none, some (.int r7)] ⟨rfl, trivial⟩ (hx (Sum.inl (r7, s8)) rfl)
def fX9_travel_J68 (n : Nat) (s : zs) : Option (Int32 × zs) := some ((0 : Int32), s)
theorem tX9_travel_J68 {n : Nat} {c : Nat × Nat} {s : zs} {r : Int32} {s' : zs} (h : fX9_travel_J68 n s = some (r, s')) : zr kX9_travel 1 8 68 [none, none, none, none, none, none, none] [] (zS c s) (some (.int r)) (zS c s') := by
  unfold fX9_travel_J68 at h
  refine zr_many 1 (pc' := 69) (L' := [none, none, none, none, none, none, none]) (st' := [.int (0 : Int32)]) (S1 := zS c s) rfl ?_
  obtain ⟨rfl, rfl⟩ := Prod.mk.inj (Option.some.inj h)
  exact zq_iret rfl
def fX9_travel (n : Nat) (s : zs) (m1 : Nat) (x2 : Int32) (x3 : Int32) : Option (Int32 × zs) := zp (fX9_way n (zsi s 38 4 (0 : Int32)) m1 x2 x3) (fun r1 => zp (zl (fX9_travel_B17 n m1 x2 x3 r1) n ((0 : Int32), (zsi s 38 4 (0 : Int32)))) (Sum.elim (fun w11 => some (w11.1, w11.2)) (fun w12 => fX9_travel_J68 n w12)))
theorem tX9_travel {n : Nat} {c : Nat × Nat} {s : zs} {m1 : Nat} {x2 : Int32} {x3 : Int32} {r : Int32} {s' : zs} (hm1 : zM m1) (h : fX9_travel n s m1 x2 x3 = some (r, s')) : zc 9 1807 [.ref 38, .ref m1, .int x2, .int x3] (zS c s) (some (.int r)) (zS c s') := by
  refine zc_of (k := kX9_travel) (rt := 1) (L := [some (.ref 38), some (.ref m1), some (.int x2), some (.int x3), none, none, none]) zm_1807.1 rfl rfl (by decide) rfl rfl ?_
  unfold fX9_travel at h
  refine zr_many 2 (pc' := 2) (L' := [some (.ref 38), some (.ref m1), some (.int x2), some (.int x3), none, none, none]) (st' := [.int (0 : Int32), .ref 38]) (S1 := zS c s) rfl ?_
  refine zq_put (s' := (zsi s 38 4 (0 : Int32))) rfl (zh_38 _) rfl rfl rfl rfl zsi_ne rfl ?_
  refine zr_many 4 (pc' := 9) (L' := [some (.ref 38), some (.ref m1), some (.int x2), some (.int x3), none, none, none]) (st' := [.int x3, .int x2, .ref m1, .ref 38]) (S1 := zS c (zsi s 38 4 (0 : Int32))) rfl ?_
  obtain ⟨r1, g3, h⟩ := zp_inv h
  refine zq_call1 rfl rfl (zh_38 _) rfl rfl rfl ((tX9_way hm1 g3).up (by decide)) rfl ?_
  refine zr_many 3 (pc' := 17) (L' := [some (.ref 38), some (.ref m1), some (.int x2), some (.int x3), some (.int r1), some (.int (0 : Int32)), none]) (st' := []) (S1 := zS c (zsi s 38 4 (0 : Int32))) rfl ?_
  obtain ⟨w14, g13, h⟩ := zp_inv h
  rcases w14 with w11 | w12
  · simp only [Sum.elim_inl, Sum.elim_inr] at h
    refine zr_wk [some (.ref 38), some (.ref m1), some (.int x2), some (.int x3), some (.int r1), some (.int (0 : Int32)), none] ⟨rfl, rfl, rfl, rfl, rfl, rfl, trivial⟩ (zl_cert (Z := fun w17 => zr kX9_travel 1 8 17 [some (.ref 38), some (.ref m1), some (.int x2), some (.int x3), some (.int r1), some (.int w17.1), none] [] (zS c w17.2) _ _) (Y := (Sum.elim (fun z => zr kX9_travel 1 8 49 [none, none, none, none, none, none, some (.int z.1)] [] (zS c z.2) _ _) (fun z => zr kX9_travel 1 8 68 [none, none, none, none, none, none, none] [] (zS c z) _ _))) (fun w o h1 h2 h3 => tX9_travel_B17 hm1 h1 h2 h3) n _ _ g13 ?_)
    show zr kX9_travel 1 8 49 [none, none, none, none, none, none, some (.int w11.1)] [] (zS c w11.2) _ _
    refine zr_many 1 (pc' := 51) (L' := [none, none, none, none, none, none, some (.int w11.1)]) (st' := [.int w11.1]) (S1 := zS c w11.2) rfl ?_
    obtain ⟨rfl, rfl⟩ := Prod.mk.inj (Option.some.inj h)
    exact zq_iret rfl
  · simp only [Sum.elim_inl, Sum.elim_inr] at h
    refine zr_wk [some (.ref 38), some (.ref m1), some (.int x2), some (.int x3), some (.int r1), some (.int (0 : Int32)), none] ⟨rfl, rfl, rfl, rfl, rfl, rfl, trivial⟩ (zl_cert (Z := fun w17 => zr kX9_travel 1 8 17 [some (.ref 38), some (.ref m1), some (.int x2), some (.int x3), some (.int r1), some (.int w17.1), none] [] (zS c w17.2) _ _) (Y := (Sum.elim (fun z => zr kX9_travel 1 8 49 [none, none, none, none, none, none, some (.int z.1)] [] (zS c z.2) _ _) (fun z => zr kX9_travel 1 8 68 [none, none, none, none, none, none, none] [] (zS c z) _ _))) (fun w o h1 h2 h3 => tX9_travel_B17 hm1 h1 h2 h3) n _ _ g13 ?_)
    show zr kX9_travel 1 8 68 [none, none, none, none, none, none, none] [] (zS c w12) _ _
    exact zr_wk [none, none, none, none, none, none, none] trivial (tX9_travel_J68 h)
def fX9_chordAhead_J37 (n : Nat) (s : zs) (y0 : Int32) : Option (Int32 × zs) := some (y0, s)
theorem tX9_chordAhead_J37 {n : Nat} {c : Nat × Nat} {s : zs} {y0 : Int32} {r : Int32} {s' : zs} (h : fX9_chordAhead_J37 n s y0 = some (r, s')) : zr kX9_chordAhead 1 5 37 [none, none, none, none, none] [.int y0] (zS c s) (some (.int r)) (zS c s') := by
  unfold fX9_chordAhead_J37 at h
  obtain ⟨rfl, rfl⟩ := Prod.mk.inj (Option.some.inj h)
  exact zq_iret rfl
def fX9_chordAhead_J36 (n : Nat) (s : zs) : Option (Int32 × zs) := fX9_chordAhead_J37 n s (0 : Int32)
theorem tX9_chordAhead_J36 {n : Nat} {c : Nat × Nat} {s : zs} {r : Int32} {s' : zs} (h : fX9_chordAhead_J36 n s = some (r, s')) : zr kX9_chordAhead 1 5 36 [none, none, none, none, none] [] (zS c s) (some (.int r)) (zS c s') := by
  unfold fX9_chordAhead_J36 at h
  refine zr_many 1 (pc' := 37) (L' := [none, none, none, none, none]) (st' := [.int (0 : Int32)]) (S1 := zS c s) rfl ?_
  exact zr_wk [none, none, none, none, none] trivial (tX9_chordAhead_J37 h)
def fX9_chordAhead (n : Nat) (s : zs) (m1 : Nat) (x2 : Int32) (x3 : Int32) : Option (Int32 × zs) := zp (fX9_lockAhead n s m1 x2 x3) (fun r1 => if r1 < 0 then fX9_chordAhead_J36 n s else zb (fX9_hindrance n s m1 x2 x3) (fun r5 s6 => if ¬ r5 = 0 then fX9_chordAhead_J36 n s6 else zp (fX0_chordBits n s6 r1) (fun r9 => fX9_chordAhead_J37 n s6 r9)))
theorem tX9_chordAhead {n : Nat} {c : Nat × Nat} {s : zs} {m1 : Nat} {x2 : Int32} {x3 : Int32} {r : Int32} {s' : zs} (hm1 : zM m1) (h : fX9_chordAhead n s m1 x2 x3 = some (r, s')) : zc 6 1809 [.ref 38, .ref m1, .int x2, .int x3] (zS c s) (some (.int r)) (zS c s') := by
  refine zc_of (k := kX9_chordAhead) (rt := 1) (L := [some (.ref 38), some (.ref m1), some (.int x2), some (.int x3), none]) zm_1809.1 rfl rfl (by decide) rfl rfl ?_
  unfold fX9_chordAhead at h
  refine zr_many 4 (pc' := 4) (L' := [some (.ref 38), some (.ref m1), some (.int x2), some (.int x3), none]) (st' := [.int x3, .int x2, .ref m1, .ref 38]) (S1 := zS c s) rfl ?_
  obtain ⟨r1, g3, h⟩ := zp_inv h
  refine zq_call1 rfl rfl (zh_38 _) rfl rfl rfl ((tX9_lockAhead hm1 g3).up (by decide)) rfl ?_
  refine zr_many 2 (pc' := 11) (L' := [some (.ref 38), some (.ref m1), some (.int x2), some (.int x3), some (.int r1)]) (st' := [.int r1]) (S1 := zS c s) rfl ?_
  refine zq_if1 (b := r1 < 0) rfl Iff.rfl rfl (fun g4 => ?_) (fun g4 => ?_)
  · rw [if_pos g4] at h
    exact zr_wk [none, none, none, none, none] trivial (tX9_chordAhead_J36 h)
  · rw [if_neg g4] at h
    refine zr_many 4 (pc' := 18) (L' := [some (.ref 38), some (.ref m1), some (.int x2), some (.int x3), some (.int r1)]) (st' := [.int x3, .int x2, .ref m1, .ref 38]) (S1 := zS c s) rfl ?_
    obtain ⟨r5, s6, g7, h⟩ := zb_inv h
    refine zq_call1 rfl rfl (zh_38 _) rfl rfl rfl (tX9_hindrance hm1 g7) rfl ?_
    refine zq_if1 (b := ¬ r5 = 0) rfl Iff.rfl rfl (fun g8 => ?_) (fun g8 => ?_)
    · rw [if_pos g8] at h
      exact zr_wk [none, none, none, none, none] trivial (tX9_chordAhead_J36 h)
    · rw [if_neg g8] at h
      refine zr_many 1 (pc' := 25) (L' := [some (.ref 38), some (.ref m1), some (.int x2), some (.int x3), some (.int r1)]) (st' := [.ref 38]) (S1 := zS c s6) rfl ?_
      refine zq_get rfl (zh_38 _) rfl rfl rfl ?_
      refine zr_many 1 (pc' := 30) (L' := [some (.ref 38), some (.ref m1), some (.int x2), some (.int x3), some (.int r1)]) (st' := [.int r1, .ref 5]) (S1 := zS c s6) rfl ?_
      obtain ⟨r9, g11, h⟩ := zp_inv h
      refine zq_call1 rfl rfl (zh_5 _) rfl rfl rfl ((tX0_chordBits g11).up (by decide)) rfl ?_
      refine zr_many 1 (pc' := 37) (L' := [some (.ref 38), some (.ref m1), some (.int x2), some (.int x3), some (.int r1)]) (st' := [.int r9]) (S1 := zS c s6) rfl ?_
      exact zr_wk [none, none, none, none, none] trivial (tX9_chordAhead_J37 h)
def fX9_findWays_B2 (n : Nat) (m1 : Nat) (w2 : Int32 × zs) : Option ((Int32 × zs) ⊕ (zs)) := if (w2.2.1 5 9) ≤ w2.1 then some (Sum.inr w2.2) else zb (fX9_chordAhead n w2.2 m1 w2.1 (1 : Int32)) (fun r2 s3 => cond (zi_in w2.1 4) (zb (fX9_chordAhead n (zsi s3 39 w2.1.toNatClampNeg r2) m1 w2.1 (0 : Int32)) (fun r5 s6 => cond (zi_in w2.1 4) (some (Sum.inl ((w2.1 + (1 : Int32)), (zsi s6 40 w2.1.toNatClampNeg r5)))) none)) none)
theorem tX9_findWays_B2 {n : Nat} {c : Nat × Nat} {m1 : Nat} {w2 : Int32 × zs} {o : _} {v : Option Value} {S' : zi_S} (hm1 : zM m1) (h : fX9_findWays_B2 n m1 w2 = some o) (hn : ∀ w2, o = Sum.inl w2 → zr kX9_findWays 0 6 2 [some (.ref 38), some (.ref m1), some (.int w2.1)] [] (zS c w2.2) v S') (hx : ∀ z, o = Sum.inr z → (fun z => zr kX9_findWays 0 6 45 [none, none, none] [] (zS c z) v S') z) : zr kX9_findWays 0 6 2 [some (.ref 38), some (.ref m1), some (.int w2.1)] [] (zS c w2.2) v S' := by
  unfold fX9_findWays_B2 at h
  refine zr_many 2 (pc' := 4) (L' := [some (.ref 38), some (.ref m1), some (.int w2.1)]) (st' := [.ref 38, .int w2.1]) (S1 := zS c w2.2) rfl ?_
  refine zq_get rfl (zh_38 _) rfl rfl rfl ?_
  refine zq_get rfl (zh_5 _) rfl rfl rfl ?_
  refine zq_if2 (b := (w2.2.1 5 9) ≤ w2.1) rfl Iff.rfl rfl (fun g1 => ?_) (fun g1 => ?_)
  · rw [if_pos g1] at h
    obtain rfl := Option.some.inj h
    exact zr_wk [none, none, none] trivial (hx w2.2 rfl)
  · rw [if_neg g1] at h
    refine zr_many 1 (pc' := 14) (L' := [some (.ref 38), some (.ref m1), some (.int w2.1)]) (st' := [.ref 38]) (S1 := zS c w2.2) rfl ?_
    refine zq_get rfl (zh_38 _) rfl rfl rfl ?_
    refine zr_many 5 (pc' := 22) (L' := [some (.ref 38), some (.ref m1), some (.int w2.1)]) (st' := [.int (1 : Int32), .int w2.1, .ref m1, .ref 38, .int w2.1, .ref 39]) (S1 := zS c w2.2) rfl ?_
    obtain ⟨r2, s3, g4, h⟩ := zb_inv h
    refine zq_call1 rfl rfl (zh_38 _) rfl rfl rfl (tX9_chordAhead hm1 g4) rfl ?_
    obtain ⟨g8, h⟩ := zi_cond_inv h
    refine zq_ist rfl zh_39 rfl g8 rfl ?_
    refine zr_many 1 (pc' := 27) (L' := [some (.ref 38), some (.ref m1), some (.int w2.1)]) (st' := [.ref 38]) (S1 := zS c (zsi s3 39 w2.1.toNatClampNeg r2)) rfl ?_
    refine zq_get rfl (zh_38 _) rfl rfl rfl ?_
    refine zr_many 5 (pc' := 35) (L' := [some (.ref 38), some (.ref m1), some (.int w2.1)]) (st' := [.int (0 : Int32), .int w2.1, .ref m1, .ref 38, .int w2.1, .ref 40]) (S1 := zS c (zsi s3 39 w2.1.toNatClampNeg r2)) rfl ?_
    obtain ⟨r5, s6, g7, h⟩ := zb_inv h
    refine zq_call1 rfl rfl (zh_38 _) rfl rfl rfl (tX9_chordAhead hm1 g7) rfl ?_
    obtain ⟨g9, h⟩ := zi_cond_inv h
    refine zq_ist rfl zh_40 rfl g9 rfl ?_
    refine zr_many 2 (pc' := 2) (L' := [some (.ref 38), some (.ref m1), some (.int (w2.1 + (1 : Int32)))]) (st' := []) (S1 := zS c (zsi s6 40 w2.1.toNatClampNeg r5)) rfl ?_
    obtain rfl := Option.some.inj h
    exact zr_wk [some (.ref 38), some (.ref m1), some (.int (w2.1 + (1 : Int32)))] ⟨rfl, rfl, rfl, trivial⟩ (hn ((w2.1 + (1 : Int32)), (zsi s6 40 w2.1.toNatClampNeg r5)) rfl)
def fX9_findWays (n : Nat) (s : zs) (m1 : Nat) : Option zs := zp (zl (fX9_findWays_B2 n m1) n ((0 : Int32), s)) (fun w10 => some w10)
theorem tX9_findWays {n : Nat} {c : Nat × Nat} {s : zs} {m1 : Nat} {s' : zs} (hm1 : zM m1) (h : fX9_findWays n s m1 = some s') : zc 7 1808 [.ref 38, .ref m1] (zS c s) none (zS c s') := by
  refine zc_of (k := kX9_findWays) (rt := 0) (L := [some (.ref 38), some (.ref m1), none]) zm_1808.1 rfl rfl (by decide) rfl rfl ?_
  unfold fX9_findWays at h
  refine zr_many 2 (pc' := 2) (L' := [some (.ref 38), some (.ref m1), some (.int (0 : Int32))]) (st' := []) (S1 := zS c s) rfl ?_
  obtain ⟨w10, g11, h⟩ := zp_inv h
  refine zr_wk [some (.ref 38), some (.ref m1), some (.int (0 : Int32))] ⟨rfl, rfl, rfl, trivial⟩ (zl_cert (Z := fun w2 => zr kX9_findWays 0 6 2 [some (.ref 38), some (.ref m1), some (.int w2.1)] [] (zS c w2.2) _ _) (Y := (fun z => zr kX9_findWays 0 6 45 [none, none, none] [] (zS c z) _ _)) (fun w o h1 h2 h3 => tX9_findWays_B2 hm1 h1 h2 h3) n _ _ g11 ?_)
  show zr kX9_findWays 0 6 45 [none, none, none] [] (zS c w10) _ _
  obtain rfl := Option.some.inj h
  exact zq_vret rfl
