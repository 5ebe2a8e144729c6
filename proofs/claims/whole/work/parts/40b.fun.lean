/-! ===== printed by wip/gen/dec.py: the methods as functions, each with its run ===== -/
def fX1_mostNotes_J32 (n : Nat) (s : zs) (x1 : Int32) (x2 : Int32) (x3 : Int32) : Option ((Int32 × Int32) ⊕ (Int32)) := some (Sum.inl (x2, (x3 + (1 : Int32))))
theorem tX1_mostNotes_J32 {n : Nat} {c : Nat × Nat} {s : zs} {x1 : Int32} {x2 : Int32} {x3 : Int32} {o : _} {v : Option Value} {S' : zi_S} (h : fX1_mostNotes_J32 n s x1 x2 x3 = some o) (hn : ∀ w4, o = Sum.inl w4 → zr kX1_mostNotes 1 2 4 [some (.ref 35), some (.int x1), some (.int w4.1), some (.int w4.2)] [] (zS c s) v S') (hx : ∀ z, o = Sum.inr z → (fun z => zr kX1_mostNotes 1 2 38 [none, none, some (.int z), none] [] (zS c s) v S') z) : zr kX1_mostNotes 1 2 32 [some (.ref 35), some (.int x1), some (.int x2), some (.int x3)] [] (zS c s) v S' := by
  unfold fX1_mostNotes_J32 at h
  refine zr_many 2 (pc' := 4) (L' := [some (.ref 35), some (.int x1), some (.int x2), some (.int (x3 + (1 : Int32)))]) (st' := []) (S1 := zS c s) rfl ?_
  obtain rfl := Option.some.inj h
  exact zr_wk [some (.ref 35), some (.int x1), some (.int x2), some (.int (x3 + (1 : Int32)))] ⟨rfl, rfl, rfl, rfl, trivial⟩ (hn (x2, (x3 + (1 : Int32))) rfl)
def fX1_mostNotes_B4 (n : Nat) (s : zs) (x1 : Int32) (w4 : Int32 × Int32) : Option ((Int32 × Int32) ⊕ (Int32)) := if (15 : Int32) < w4.2 then some (Sum.inr w4.1) else zp (fJ6_bitCount_0f7a4 n s w4.2) (fun r2 => zp (fJ6_bitCount_0f7a4 n s w4.1) (fun r5 => if r2 ≤ r5 then fX1_mostNotes_J32 n s x1 w4.1 w4.2 else zp (fX1_canSing n s w4.2 x1) (fun r9 => if r9 = 0 then fX1_mostNotes_J32 n s x1 w4.1 w4.2 else fX1_mostNotes_J32 n s x1 w4.2 w4.2)))
theorem tX1_mostNotes_B4 {n : Nat} {c : Nat × Nat} {s : zs} {x1 : Int32} {w4 : Int32 × Int32} {o : _} {v : Option Value} {S' : zi_S} (h : fX1_mostNotes_B4 n s x1 w4 = some o) (hn : ∀ w4, o = Sum.inl w4 → zr kX1_mostNotes 1 2 4 [some (.ref 35), some (.int x1), some (.int w4.1), some (.int w4.2)] [] (zS c s) v S') (hx : ∀ z, o = Sum.inr z → (fun z => zr kX1_mostNotes 1 2 38 [none, none, some (.int z), none] [] (zS c s) v S') z) : zr kX1_mostNotes 1 2 4 [some (.ref 35), some (.int x1), some (.int w4.1), some (.int w4.2)] [] (zS c s) v S' := by
  unfold fX1_mostNotes_B4 at h
  refine zr_many 2 (pc' := 7) (L' := [some (.ref 35), some (.int x1), some (.int w4.1), some (.int w4.2)]) (st' := [.int (15 : Int32), .int w4.2]) (S1 := zS c s) rfl ?_
  refine zq_if2 (b := (15 : Int32) < w4.2) rfl Iff.rfl rfl (fun g1 => ?_) (fun g1 => ?_)
  · rw [if_pos g1] at h
    obtain rfl := Option.some.inj h
    exact zr_wk [none, none, some (.int w4.1), none] ⟨rfl, trivial⟩ (hx w4.1 rfl)
  · rw [if_neg g1] at h
    refine zr_many 1 (pc' := 11) (L' := [some (.ref 35), some (.int x1), some (.int w4.1), some (.int w4.2)]) (st' := [.int w4.2]) (S1 := zS c s) rfl ?_
    obtain ⟨r2, g4, h⟩ := zp_inv h
    refine zq_scall1 rfl (by decide) rfl rfl ((tJ6_bitCount_0f7a4 g4).up (by decide)) rfl ?_
    refine zr_many 1 (pc' := 15) (L' := [some (.ref 35), some (.int x1), some (.int w4.1), some (.int w4.2)]) (st' := [.int w4.1, .int r2]) (S1 := zS c s) rfl ?_
    obtain ⟨r5, g7, h⟩ := zp_inv h
    refine zq_scall1 rfl (by decide) rfl rfl ((tJ6_bitCount_0f7a4 g7).up (by decide)) rfl ?_
    refine zq_if2 (b := r2 ≤ r5) rfl Iff.rfl rfl (fun g8 => ?_) (fun g8 => ?_)
    · rw [if_pos g8] at h
      exact zr_wk [some (.ref 35), some (.int x1), some (.int w4.1), some (.int w4.2)] ⟨rfl, rfl, rfl, rfl, trivial⟩ (tX1_mostNotes_J32 h hn hx)
    · rw [if_neg g8] at h
      refine zr_many 3 (pc' := 24) (L' := [some (.ref 35), some (.int x1), some (.int w4.1), some (.int w4.2)]) (st' := [.int x1, .int w4.2, .ref 35]) (S1 := zS c s) rfl ?_
      obtain ⟨r9, g11, h⟩ := zp_inv h
      refine zq_call1 rfl rfl (zh_35 _) rfl rfl rfl (tX1_canSing g11) rfl ?_
      refine zq_if1 (b := r9 = 0) rfl Iff.rfl rfl (fun g12 => ?_) (fun g12 => ?_)
      · rw [if_pos g12] at h
        exact zr_wk [some (.ref 35), some (.int x1), some (.int w4.1), some (.int w4.2)] ⟨rfl, rfl, rfl, rfl, trivial⟩ (tX1_mostNotes_J32 h hn hx)
      · rw [if_neg g12] at h
        refine zr_many 2 (pc' := 32) (L' := [some (.ref 35), some (.int x1), some (.int w4.2), some (.int w4.2)]) (st' := []) (S1 := zS c s) rfl ?_
        exact zr_wk [some (.ref 35), some (.int x1), some (.int w4.2), some (.int w4.2)] ⟨rfl, rfl, rfl, rfl, trivial⟩ (tX1_mostNotes_J32 h hn hx)
def fX1_mostNotes (n : Nat) (s : zs) (x1 : Int32) : Option Int32 := zp (zl (fX1_mostNotes_B4 n s x1) n ((0 : Int32), (1 : Int32))) (fun w13 => some w13)
theorem tX1_mostNotes {n : Nat} {c : Nat × Nat} {s : zs} {x1 : Int32} {r : Int32} (h : fX1_mostNotes n s x1 = some r) : zc 3 206 [.ref 35, .int x1] (zS c s) (some (.int r)) (zS c s) := by
  refine zc_of (k := kX1_mostNotes) (rt := 1) (L := [some (.ref 35), some (.int x1), none, none]) zm_206.1 rfl rfl (by decide) rfl rfl ?_
  unfold fX1_mostNotes at h
  refine zr_many 4 (pc' := 4) (L' := [some (.ref 35), some (.int x1), some (.int (0 : Int32)), some (.int (1 : Int32))]) (st' := []) (S1 := zS c s) rfl ?_
  obtain ⟨w13, g14, h⟩ := zp_inv h
  refine zr_wk [some (.ref 35), some (.int x1), some (.int (0 : Int32)), some (.int (1 : Int32))] ⟨rfl, rfl, rfl, rfl, trivial⟩ (zl_cert (Z := fun w4 => zr kX1_mostNotes 1 2 4 [some (.ref 35), some (.int x1), some (.int w4.1), some (.int w4.2)] [] (zS c s) _ _) (Y := (fun z => zr kX1_mostNotes 1 2 38 [none, none, some (.int z), none] [] (zS c s) _ _)) (fun w o h1 h2 h3 => tX1_mostNotes_B4 h1 h2 h3) n _ _ g14 ?_)
  show zr kX1_mostNotes 1 2 38 [none, none, some (.int w13), none] [] (zS c s) _ _
  refine zr_many 1 (pc' := 39) (L' := [none, none, some (.int w13), none]) (st' := [.int w13]) (S1 := zS c s) rfl ?_
  obtain rfl := Option.some.inj h
  exact zq_iret rfl
def fX1_fewestMissed_J58 (n : Nat) (s : zs) (x1 : Int32) (x2 : Int32) (x3 : Int32) : Option ((Int32 × Int32) ⊕ (Int32)) := some (Sum.inl (x2, (x3 + (1 : Int32))))
theorem tX1_fewestMissed_J58 {n : Nat} {c : Nat × Nat} {s : zs} {x1 : Int32} {x2 : Int32} {x3 : Int32} {o : _} {v : Option Value} {S' : zi_S} (h : fX1_fewestMissed_J58 n s x1 x2 x3 = some o) (hn : ∀ w4, o = Sum.inl w4 → zr kX1_fewestMissed 1 2 4 [some (.ref 35), some (.int x1), some (.int w4.1), some (.int w4.2), none] [] (zS c s) v S') (hx : ∀ z, o = Sum.inr z → (fun z => zr kX1_fewestMissed 1 2 64 [none, none, some (.int z), none, none] [] (zS c s) v S') z) : zr kX1_fewestMissed 1 2 58 [some (.ref 35), some (.int x1), some (.int x2), some (.int x3), none] [] (zS c s) v S' := by
  unfold fX1_fewestMissed_J58 at h
  refine zr_many 2 (pc' := 4) (L' := [some (.ref 35), some (.int x1), some (.int x2), some (.int (x3 + (1 : Int32))), none]) (st' := []) (S1 := zS c s) rfl ?_
  obtain rfl := Option.some.inj h
  exact zr_wk [some (.ref 35), some (.int x1), some (.int x2), some (.int (x3 + (1 : Int32))), none] ⟨rfl, rfl, rfl, rfl, trivial⟩ (hn (x2, (x3 + (1 : Int32))) rfl)
def fX1_fewestMissed_J27 (n : Nat) (s : zs) (x1 : Int32) (x2 : Int32) (x3 : Int32) (y0 : Int32) : Option ((Int32 × Int32) ⊕ (Int32)) := if y0 = 0 then fX1_fewestMissed_J58 n s x1 x2 x3 else if ¬ (x3 &&& (x1 ^^^ (-1 : Int32))) = 0 then fX1_fewestMissed_J58 n s x1 x2 x3 else zp (fX1_canSing n s (15 : Int32) (x1 &&& (x3 ^^^ (-1 : Int32)))) (fun r11 => if ¬ r11 = 0 then fX1_fewestMissed_J58 n s x1 x2 x3 else fX1_fewestMissed_J58 n s x1 x3 x3)
theorem tX1_fewestMissed_J27 {n : Nat} {c : Nat × Nat} {s : zs} {x1 : Int32} {x2 : Int32} {x3 : Int32} {y0 : Int32} {o : _} {v : Option Value} {S' : zi_S} (h : fX1_fewestMissed_J27 n s x1 x2 x3 y0 = some o) (hn : ∀ w4, o = Sum.inl w4 → zr kX1_fewestMissed 1 2 4 [some (.ref 35), some (.int x1), some (.int w4.1), some (.int w4.2), none] [] (zS c s) v S') (hx : ∀ z, o = Sum.inr z → (fun z => zr kX1_fewestMissed 1 2 64 [none, none, some (.int z), none, none] [] (zS c s) v S') z) : zr kX1_fewestMissed 1 2 27 [some (.ref 35), some (.int x1), some (.int x2), some (.int x3), none] [.int y0] (zS c s) v S' := by
  unfold fX1_fewestMissed_J27 at h
  refine zr_many 2 (pc' := 31) (L' := [some (.ref 35), some (.int x1), some (.int x2), some (.int x3), some (.int y0)]) (st' := [.int y0]) (S1 := zS c s) rfl ?_
  refine zq_if1 (b := y0 = 0) rfl Iff.rfl rfl (fun g9 => ?_) (fun g9 => ?_)
  · rw [if_pos g9] at h
    exact zr_wk [some (.ref 35), some (.int x1), some (.int x2), some (.int x3), none] ⟨rfl, rfl, rfl, rfl, trivial⟩ (tX1_fewestMissed_J58 h hn hx)
  · rw [if_neg g9] at h
    refine zr_many 5 (pc' := 39) (L' := [some (.ref 35), some (.int x1), some (.int x2), some (.int x3), some (.int y0)]) (st' := [.int (x3 &&& (x1 ^^^ (-1 : Int32)))]) (S1 := zS c s) rfl ?_
    refine zq_if1 (b := ¬ (x3 &&& (x1 ^^^ (-1 : Int32))) = 0) rfl Iff.rfl rfl (fun g10 => ?_) (fun g10 => ?_)
    · rw [if_pos g10] at h
      exact zr_wk [some (.ref 35), some (.int x1), some (.int x2), some (.int x3), none] ⟨rfl, rfl, rfl, rfl, trivial⟩ (tX1_fewestMissed_J58 h hn hx)
    · rw [if_neg g10] at h
      refine zr_many 7 (pc' := 50) (L' := [some (.ref 35), some (.int x1), some (.int x2), some (.int x3), some (.int y0)]) (st' := [.int (x1 &&& (x3 ^^^ (-1 : Int32))), .int (15 : Int32), .ref 35]) (S1 := zS c s) rfl ?_
      obtain ⟨r11, g13, h⟩ := zp_inv h
      refine zq_call1 rfl rfl (zh_35 _) rfl rfl rfl (tX1_canSing g13) rfl ?_
      refine zq_if1 (b := ¬ r11 = 0) rfl Iff.rfl rfl (fun g14 => ?_) (fun g14 => ?_)
      · rw [if_pos g14] at h
        exact zr_wk [some (.ref 35), some (.int x1), some (.int x2), some (.int x3), none] ⟨rfl, rfl, rfl, rfl, trivial⟩ (tX1_fewestMissed_J58 h hn hx)
      · rw [if_neg g14] at h
        refine zr_many 2 (pc' := 58) (L' := [some (.ref 35), some (.int x1), some (.int x3), some (.int x3), some (.int y0)]) (st' := []) (S1 := zS c s) rfl ?_
        exact zr_wk [some (.ref 35), some (.int x1), some (.int x3), some (.int x3), none] ⟨rfl, rfl, rfl, rfl, trivial⟩ (tX1_fewestMissed_J58 h hn hx)
def fX1_fewestMissed_B4 (n : Nat) (s : zs) (x1 : Int32) (w4 : Int32 × Int32) : Option ((Int32 × Int32) ⊕ (Int32)) := if (256 : Int32) ≤ w4.2 then some (Sum.inr w4.1) else zp (fJ6_bitCount_0f7a4 n s w4.2) (fun r2 => zp (fJ6_bitCount_0f7a4 n s w4.1) (fun r5 => if r5 ≤ r2 then fX1_fewestMissed_J27 n s x1 w4.1 w4.2 (0 : Int32) else fX1_fewestMissed_J27 n s x1 w4.1 w4.2 (1 : Int32)))
theorem tX1_fewestMissed_B4 {n : Nat} {c : Nat × Nat} {s : zs} {x1 : Int32} {w4 : Int32 × Int32} {o : _} {v : Option Value} {S' : zi_S} (h : fX1_fewestMissed_B4 n s x1 w4 = some o) (hn : ∀ w4, o = Sum.inl w4 → zr kX1_fewestMissed 1 2 4 [some (.ref 35), some (.int x1), some (.int w4.1), some (.int w4.2), none] [] (zS c s) v S') (hx : ∀ z, o = Sum.inr z → (fun z => zr kX1_fewestMissed 1 2 64 [none, none, some (.int z), none, none] [] (zS c s) v S') z) : zr kX1_fewestMissed 1 2 4 [some (.ref 35), some (.int x1), some (.int w4.1), some (.int w4.2), none] [] (zS c s) v S' := by
  unfold fX1_fewestMissed_B4 at h
  refine zr_many 2 (pc' := 8) (L' := [some (.ref 35), some (.int x1), some (.int w4.1), some (.int w4.2), none]) (st' := [.int (256 : Int32), .int w4.2]) (S1 := zS c s) rfl ?_
  refine zq_if2 (b := (256 : Int32) ≤ w4.2) rfl Iff.rfl rfl (fun g1 => ?_) (fun g1 => ?_)
  · rw [if_pos g1] at h
    obtain rfl := Option.some.inj h
    exact zr_wk [none, none, some (.int w4.1), none, none] ⟨rfl, trivial⟩ (hx w4.1 rfl)
  · rw [if_neg g1] at h
    refine zr_many 1 (pc' := 12) (L' := [some (.ref 35), some (.int x1), some (.int w4.1), some (.int w4.2), none]) (st' := [.int w4.2]) (S1 := zS c s) rfl ?_
    obtain ⟨r2, g4, h⟩ := zp_inv h
    refine zq_scall1 rfl (by decide) rfl rfl ((tJ6_bitCount_0f7a4 g4).up (by decide)) rfl ?_
    refine zr_many 1 (pc' := 16) (L' := [some (.ref 35), some (.int x1), some (.int w4.1), some (.int w4.2), none]) (st' := [.int w4.1, .int r2]) (S1 := zS c s) rfl ?_
    obtain ⟨r5, g7, h⟩ := zp_inv h
    refine zq_scall1 rfl (by decide) rfl rfl ((tJ6_bitCount_0f7a4 g7).up (by decide)) rfl ?_
    refine zq_if2 (b := r5 ≤ r2) rfl Iff.rfl rfl (fun g8 => ?_) (fun g8 => ?_)
    · rw [if_pos g8] at h
      refine zr_many 1 (pc' := 27) (L' := [some (.ref 35), some (.int x1), some (.int w4.1), some (.int w4.2), none]) (st' := [.int (0 : Int32)]) (S1 := zS c s) rfl ?_
      exact zr_wk [some (.ref 35), some (.int x1), some (.int w4.1), some (.int w4.2), none] ⟨rfl, rfl, rfl, rfl, trivial⟩ (tX1_fewestMissed_J27 h hn hx)
    · rw [if_neg g8] at h
      refine zr_many 2 (pc' := 27) (L' := [some (.ref 35), some (.int x1), some (.int w4.1), some (.int w4.2), none]) (st' := [.int (1 : Int32)]) (S1 := zS c s) rfl ?_
      exact zr_wk [some (.ref 35), some (.int x1), some (.int w4.1), some (.int w4.2), none] ⟨rfl, rfl, rfl, rfl, trivial⟩ (tX1_fewestMissed_J27 h hn hx)
def fX1_fewestMissed (n : Nat) (s : zs) (x1 : Int32) : Option Int32 := zp (zl (fX1_fewestMissed_B4 n s x1) n (x1, (0 : Int32))) (fun w15 => some w15)
theorem tX1_fewestMissed {n : Nat} {c : Nat × Nat} {s : zs} {x1 : Int32} {r : Int32} (h : fX1_fewestMissed n s x1 = some r) : zc 3 207 [.ref 35, .int x1] (zS c s) (some (.int r)) (zS c s) := by
  refine zc_of (k := kX1_fewestMissed) (rt := 1) (L := [some (.ref 35), some (.int x1), none, none, none]) zm_207.1 rfl rfl (by decide) rfl rfl ?_
  unfold fX1_fewestMissed at h
  refine zr_many 4 (pc' := 4) (L' := [some (.ref 35), some (.int x1), some (.int x1), some (.int (0 : Int32)), none]) (st' := []) (S1 := zS c s) rfl ?_
  obtain ⟨w15, g16, h⟩ := zp_inv h
  refine zr_wk [some (.ref 35), some (.int x1), some (.int x1), some (.int (0 : Int32)), none] ⟨rfl, rfl, rfl, rfl, trivial⟩ (zl_cert (Z := fun w4 => zr kX1_fewestMissed 1 2 4 [some (.ref 35), some (.int x1), some (.int w4.1), some (.int w4.2), none] [] (zS c s) _ _) (Y := (fun z => zr kX1_fewestMissed 1 2 64 [none, none, some (.int z), none, none] [] (zS c s) _ _)) (fun w o h1 h2 h3 => tX1_fewestMissed_B4 h1 h2 h3) n _ _ g16 ?_)
  show zr kX1_fewestMissed 1 2 64 [none, none, some (.int w15), none, none] [] (zS c s) _ _
  refine zr_many 1 (pc' := 65) (L' := [none, none, some (.int w15), none, none]) (st' := [.int w15]) (S1 := zS c s) rfl ?_
  obtain rfl := Option.some.inj h
  exact zq_iret rfl
def fX2_begin_B2 (n : Nat) (w2 : Int32 × zs) : Option ((Int32 × zs) ⊕ (zs)) := if (256 : Int32) ≤ w2.1 then some (Sum.inr w2.2) else cond (zi_in w2.1 256) (some (Sum.inl ((w2.1 + (1 : Int32)), (zsi w2.2 42 w2.1.toNatClampNeg (vp_nar .boolean (1 : Int32)))))) none
theorem tX2_begin_B2 {n : Nat} {c : Nat × Nat} {w2 : Int32 × zs} {o : _} {v : Option Value} {S' : zi_S} (h : fX2_begin_B2 n w2 = some o) (hn : ∀ w2, o = Sum.inl w2 → zr kX2_begin 0 0 2 [some (.ref 41), some (.int w2.1)] [] (zS c w2.2) v S') (hx : ∀ z, o = Sum.inr z → (fun z => zr kX2_begin 0 0 22 [none, none] [] (zS c z) v S') z) : zr kX2_begin 0 0 2 [some (.ref 41), some (.int w2.1)] [] (zS c w2.2) v S' := by
  unfold fX2_begin_B2 at h
  refine zr_many 2 (pc' := 6) (L' := [some (.ref 41), some (.int w2.1)]) (st' := [.int (256 : Int32), .int w2.1]) (S1 := zS c w2.2) rfl ?_
  refine zq_if2 (b := (256 : Int32) ≤ w2.1) rfl Iff.rfl rfl (fun g1 => ?_) (fun g1 => ?_)
  · rw [if_pos g1] at h
    obtain rfl := Option.some.inj h
    exact zr_wk [none, none] trivial (hx w2.2 rfl)
  · rw [if_neg g1] at h
    refine zr_many 1 (pc' := 10) (L' := [some (.ref 41), some (.int w2.1)]) (st' := [.ref 41]) (S1 := zS c w2.2) rfl ?_
    refine zq_get rfl (zh_41 _) rfl rfl rfl ?_
    refine zr_many 2 (pc' := 15) (L' := [some (.ref 41), some (.int w2.1)]) (st' := [.int (1 : Int32), .int w2.1, .ref 42]) (S1 := zS c w2.2) rfl ?_
    obtain ⟨g2, h⟩ := zi_cond_inv h
    refine zq_zst rfl zh_42 rfl g2 rfl ?_
    refine zr_many 2 (pc' := 2) (L' := [some (.ref 41), some (.int (w2.1 + (1 : Int32)))]) (st' := []) (S1 := zS c (zsi w2.2 42 w2.1.toNatClampNeg (vp_nar .boolean (1 : Int32)))) rfl ?_
    obtain rfl := Option.some.inj h
    exact zr_wk [some (.ref 41), some (.int (w2.1 + (1 : Int32)))] ⟨rfl, rfl, trivial⟩ (hn ((w2.1 + (1 : Int32)), (zsi w2.2 42 w2.1.toNatClampNeg (vp_nar .boolean (1 : Int32)))) rfl)
def fX2_begin (n : Nat) (s : zs) : Option zs := zp (zl (fX2_begin_B2 n) n ((0 : Int32), s)) (fun w3 => some w3)
theorem tX2_begin {n : Nat} {c : Nat × Nat} {s : zs} {s' : zs} (h : fX2_begin n s = some s') : zc 1 401 [.ref 41] (zS c s) none (zS c s') := by
  refine zc_of (k := kX2_begin) (rt := 0) (L := [some (.ref 41), none]) zm_401.1 rfl rfl (by decide) rfl rfl ?_
  unfold fX2_begin at h
  refine zr_many 2 (pc' := 2) (L' := [some (.ref 41), some (.int (0 : Int32))]) (st' := []) (S1 := zS c s) rfl ?_
  obtain ⟨w3, g4, h⟩ := zp_inv h
  refine zr_wk [some (.ref 41), some (.int (0 : Int32))] ⟨rfl, rfl, trivial⟩ (zl_cert (Z := fun w2 => zr kX2_begin 0 0 2 [some (.ref 41), some (.int w2.1)] [] (zS c w2.2) _ _) (Y := (fun z => zr kX2_begin 0 0 22 [none, none] [] (zS c z) _ _)) (fun w o h1 h2 h3 => tX2_begin_B2 h1 h2 h3) n _ _ g4 ?_)
  show zr kX2_begin 0 0 22 [none, none] [] (zS c w3) _ _
  obtain rfl := Option.some.inj h
  exact zq_vret rfl
def fX2_mustSing_J61 (n : Nat) (s : zs) (x3 : Int32) (x4 : Int32) (x5 : Int32) (y1 : Int32) (y2 : Int32) : Option ((Int32 × zs) ⊕ (zs)) := cond (zi_in y1 256) (some (Sum.inl ((x5 + (1 : Int32)), (zsi s 42 y1.toNatClampNeg (vp_nar .boolean y2))))) none
theorem tX2_mustSing_J61 {n : Nat} {c : Nat × Nat} {s : zs} {x3 : Int32} {x4 : Int32} {x5 : Int32} {y1 : Int32} {y2 : Int32} {o : _} {v : Option Value} {S' : zi_S} (h : fX2_mustSing_J61 n s x3 x4 x5 y1 y2 = some o) (hn : ∀ w13, o = Sum.inl w13 → zr kX2_mustSing 0 3 13 [some (.ref 41), none, none, some (.int x3), some (.int x4), some (.int w13.1)] [] (zS c w13.2) v S') (hx : ∀ z, o = Sum.inr z → (fun z => zr kX2_mustSing 0 3 68 [none, none, none, none, none, none] [] (zS c z) v S') z) : zr kX2_mustSing 0 3 61 [some (.ref 41), none, none, some (.int x3), some (.int x4), some (.int x5)] [.int y2, .int y1, .ref 42] (zS c s) v S' := by
  unfold fX2_mustSing_J61 at h
  obtain ⟨g7, h⟩ := zi_cond_inv h
  refine zq_zst rfl zh_42 rfl g7 rfl ?_
  refine zr_many 2 (pc' := 13) (L' := [some (.ref 41), none, none, some (.int x3), some (.int x4), some (.int (x5 + (1 : Int32)))]) (st' := []) (S1 := zS c (zsi s 42 y1.toNatClampNeg (vp_nar .boolean y2))) rfl ?_
  obtain rfl := Option.some.inj h
  exact zr_wk [some (.ref 41), none, none, some (.int x3), some (.int x4), some (.int (x5 + (1 : Int32)))] ⟨rfl, rfl, rfl, rfl, trivial⟩ (hn ((x5 + (1 : Int32)), (zsi s 42 y1.toNatClampNeg (vp_nar .boolean y2))) rfl)
def fX2_mustSing_J60 (n : Nat) (s : zs) (x3 : Int32) (x4 : Int32) (x5 : Int32) (y1 : Int32) : Option ((Int32 × zs) ⊕ (zs)) := fX2_mustSing_J61 n s x3 x4 x5 y1 (0 : Int32)
theorem tX2_mustSing_J60 {n : Nat} {c : Nat × Nat} {s : zs} {x3 : Int32} {x4 : Int32} {x5 : Int32} {y1 : Int32} {o : _} {v : Option Value} {S' : zi_S} (h : fX2_mustSing_J60 n s x3 x4 x5 y1 = some o) (hn : ∀ w13, o = Sum.inl w13 → zr kX2_mustSing 0 3 13 [some (.ref 41), none, none, some (.int x3), some (.int x4), some (.int w13.1)] [] (zS c w13.2) v S') (hx : ∀ z, o = Sum.inr z → (fun z => zr kX2_mustSing 0 3 68 [none, none, none, none, none, none] [] (zS c z) v S') z) : zr kX2_mustSing 0 3 60 [some (.ref 41), none, none, some (.int x3), some (.int x4), some (.int x5)] [.int y1, .ref 42] (zS c s) v S' := by
  unfold fX2_mustSing_J60 at h
  refine zr_many 1 (pc' := 61) (L' := [some (.ref 41), none, none, some (.int x3), some (.int x4), some (.int x5)]) (st' := [.int (0 : Int32), .int y1, .ref 42]) (S1 := zS c s) rfl ?_
  exact zr_wk [some (.ref 41), none, none, some (.int x3), some (.int x4), some (.int x5)] ⟨rfl, rfl, rfl, rfl, trivial⟩ (tX2_mustSing_J61 h hn hx)
def fX2_mustSing_B13 (n : Nat) (x3 : Int32) (x4 : Int32) (w13 : Int32 × zs) : Option ((Int32 × zs) ⊕ (zs)) := if (256 : Int32) ≤ w13.1 then some (Sum.inr w13.2) else cond (zi_in w13.1 256) (if (w13.2.1 42 w13.1.toNatClampNeg) = 0 then fX2_mustSing_J60 n w13.2 x3 x4 w13.1 w13.1 else zp (fX1_canSing n w13.2 (15 : Int32) (x3 ||| (w13.1 &&& x4))) (fun r8 => if r8 = 0 then fX2_mustSing_J60 n w13.2 x3 x4 w13.1 w13.1 else fX2_mustSing_J61 n w13.2 x3 x4 w13.1 w13.1 (1 : Int32))) none
theorem tX2_mustSing_B13 {n : Nat} {c : Nat × Nat} {x3 : Int32} {x4 : Int32} {w13 : Int32 × zs} {o : _} {v : Option Value} {S' : zi_S} (h : fX2_mustSing_B13 n x3 x4 w13 = some o) (hn : ∀ w13, o = Sum.inl w13 → zr kX2_mustSing 0 3 13 [some (.ref 41), none, none, some (.int x3), some (.int x4), some (.int w13.1)] [] (zS c w13.2) v S') (hx : ∀ z, o = Sum.inr z → (fun z => zr kX2_mustSing 0 3 68 [none, none, none, none, none, none] [] (zS c z) v S') z) : zr kX2_mustSing 0 3 13 [some (.ref 41), none, none, some (.int x3), some (.int x4), some (.int w13.1)] [] (zS c w13.2) v S' := by
  unfold fX2_mustSing_B13 at h
  refine zr_many 2 (pc' := 18) (L' := [some (.ref 41), none, none, some (.int x3), some (.int x4), some (.int w13.1)]) (st' := [.int (256 : Int32), .int w13.1]) (S1 := zS c w13.2) rfl ?_
  refine zq_if2 (b := (256 : Int32) ≤ w13.1) rfl Iff.rfl rfl (fun g4 => ?_) (fun g4 => ?_)
  · rw [if_pos g4] at h
    obtain rfl := Option.some.inj h
    exact zr_wk [none, none, none, none, none, none] trivial (hx w13.2 rfl)
  · rw [if_neg g4] at h
    refine zr_many 1 (pc' := 22) (L' := [some (.ref 41), none, none, some (.int x3), some (.int x4), some (.int w13.1)]) (st' := [.ref 41]) (S1 := zS c w13.2) rfl ?_
    refine zq_get rfl (zh_41 _) rfl rfl rfl ?_
    refine zr_many 2 (pc' := 28) (L' := [some (.ref 41), none, none, some (.int x3), some (.int x4), some (.int w13.1)]) (st' := [.ref 41, .int w13.1, .ref 42]) (S1 := zS c w13.2) rfl ?_
    refine zq_get rfl (zh_41 _) rfl rfl rfl ?_
    refine zr_many 1 (pc' := 33) (L' := [some (.ref 41), none, none, some (.int x3), some (.int x4), some (.int w13.1)]) (st' := [.int w13.1, .ref 42, .int w13.1, .ref 42]) (S1 := zS c w13.2) rfl ?_
    obtain ⟨g5, h⟩ := zi_cond_inv h
    refine zq_zld rfl (zh_42 _) rfl g5 rfl ?_
    refine zq_if1 (b := (w13.2.1 42 w13.1.toNatClampNeg) = 0) rfl Iff.rfl rfl (fun g6 => ?_) (fun g6 => ?_)
    · rw [if_pos g6] at h
      exact zr_wk [some (.ref 41), none, none, some (.int x3), some (.int x4), some (.int w13.1)] ⟨rfl, rfl, rfl, rfl, trivial⟩ (tX2_mustSing_J60 h hn hx)
    · rw [if_neg g6] at h
      refine zr_many 1 (pc' := 38) (L' := [some (.ref 41), none, none, some (.int x3), some (.int x4), some (.int w13.1)]) (st' := [.ref 41, .int w13.1, .ref 42]) (S1 := zS c w13.2) rfl ?_
      refine zq_get rfl (zh_41 _) rfl rfl rfl ?_
      refine zr_many 6 (pc' := 50) (L' := [some (.ref 41), none, none, some (.int x3), some (.int x4), some (.int w13.1)]) (st' := [.int (x3 ||| (w13.1 &&& x4)), .int (15 : Int32), .ref 35, .int w13.1, .ref 42]) (S1 := zS c w13.2) rfl ?_
      obtain ⟨r8, g10, h⟩ := zp_inv h
      refine zq_call1 rfl rfl (zh_35 _) rfl rfl rfl ((tX1_canSing g10).up (by decide)) rfl ?_
      refine zq_if1 (b := r8 = 0) rfl Iff.rfl rfl (fun g11 => ?_) (fun g11 => ?_)
      · rw [if_pos g11] at h
        exact zr_wk [some (.ref 41), none, none, some (.int x3), some (.int x4), some (.int w13.1)] ⟨rfl, rfl, rfl, rfl, trivial⟩ (tX2_mustSing_J60 h hn hx)
      · rw [if_neg g11] at h
        refine zr_many 2 (pc' := 61) (L' := [some (.ref 41), none, none, some (.int x3), some (.int x4), some (.int w13.1)]) (st' := [.int (1 : Int32), .int w13.1, .ref 42]) (S1 := zS c w13.2) rfl ?_
        exact zr_wk [some (.ref 41), none, none, some (.int x3), some (.int x4), some (.int w13.1)] ⟨rfl, rfl, rfl, rfl, trivial⟩ (tX2_mustSing_J61 h hn hx)
def fX2_mustSing (n : Nat) (s : zs) (m1 : Nat) (x2 : Int32) (x3 : Int32) (x4 : Int32) : Option zs := zp (fX1_gather n s m1 x2 (0 : Int32)) (fun s2 => zp (zl (fX2_mustSing_B13 n x3 x4) n ((0 : Int32), s2)) (fun w12 => some w12))
theorem tX2_mustSing {n : Nat} {c : Nat × Nat} {s : zs} {m1 : Nat} {x2 : Int32} {x3 : Int32} {x4 : Int32} {s' : zs} (hm1 : zM m1) (h : fX2_mustSing n s m1 x2 x3 x4 = some s') : zc 4 402 [.ref 41, .ref m1, .int x2, .int x3, .int x4] (zS c s) none (zS c s') := by
  refine zc_of (k := kX2_mustSing) (rt := 0) (L := [some (.ref 41), some (.ref m1), some (.int x2), some (.int x3), some (.int x4), none]) zm_402.1 rfl rfl (by decide) rfl rfl ?_
  unfold fX2_mustSing at h
  refine zr_many 1 (pc' := 1) (L' := [some (.ref 41), some (.ref m1), some (.int x2), some (.int x3), some (.int x4), none]) (st' := [.ref 41]) (S1 := zS c s) rfl ?_
  refine zq_get rfl (zh_41 _) rfl rfl rfl ?_
  refine zr_many 3 (pc' := 7) (L' := [some (.ref 41), some (.ref m1), some (.int x2), some (.int x3), some (.int x4), none]) (st' := [.int (0 : Int32), .int x2, .ref m1, .ref 35]) (S1 := zS c s) rfl ?_
  obtain ⟨s2, g3, h⟩ := zp_inv h
  refine zq_call0 rfl rfl (zh_35 _) rfl rfl rfl (tX1_gather hm1 g3) rfl ?_
  refine zr_many 2 (pc' := 13) (L' := [some (.ref 41), some (.ref m1), some (.int x2), some (.int x3), some (.int x4), some (.int (0 : Int32))]) (st' := []) (S1 := zS c s2) rfl ?_
  obtain ⟨w12, g13, h⟩ := zp_inv h
  refine zr_wk [some (.ref 41), none, none, some (.int x3), some (.int x4), some (.int (0 : Int32))] ⟨rfl, rfl, rfl, rfl, trivial⟩ (zl_cert (Z := fun w13 => zr kX2_mustSing 0 3 13 [some (.ref 41), none, none, some (.int x3), some (.int x4), some (.int w13.1)] [] (zS c w13.2) _ _) (Y := (fun z => zr kX2_mustSing 0 3 68 [none, none, none, none, none, none] [] (zS c z) _ _)) (fun w o h1 h2 h3 => tX2_mustSing_B13 h1 h2 h3) n _ _ g13 ?_)
  show zr kX2_mustSing 0 3 68 [none, none, none, none, none, none] [] (zS c w12) _ _
  obtain rfl := Option.some.inj h
  exact zq_vret rfl
def fX2_isBetter_J47 (n : Nat) (s : zs) (y0 : Int32) : Option Int32 := if y0 = 0 ∨ y0 = 1 then some y0 else none
theorem tX2_isBetter_J47 {n : Nat} {c : Nat × Nat} {s : zs} {y0 : Int32} {r : Int32} (h : fX2_isBetter_J47 n s y0 = some r) : zr kX2_isBetter 2 1 47 [none, none, none, none, none] [.int y0] (zS c s) (some (.int r)) (zS c s) := by
  unfold fX2_isBetter_J47 at h
  obtain ⟨gz, h⟩ := zt_inv h
  obtain rfl := Option.some.inj h
  exact zq_zret rfl gz
def fX2_isBetter_J42 (n : Nat) (s : zs) : Option Int32 := fX2_isBetter_J47 n s (1 : Int32)
theorem tX2_isBetter_J42 {n : Nat} {c : Nat × Nat} {s : zs} {r : Int32} (h : fX2_isBetter_J42 n s = some r) : zr kX2_isBetter 2 1 42 [none, none, none, none, none] [] (zS c s) (some (.int r)) (zS c s) := by
  unfold fX2_isBetter_J42 at h
  refine zr_many 2 (pc' := 47) (L' := [none, none, none, none, none]) (st' := [.int (1 : Int32)]) (S1 := zS c s) rfl ?_
  exact zr_wk [none, none, none, none, none] trivial (tX2_isBetter_J47 h)
def fX2_isBetter_J46 (n : Nat) (s : zs) : Option Int32 := fX2_isBetter_J47 n s (0 : Int32)
theorem tX2_isBetter_J46 {n : Nat} {c : Nat × Nat} {s : zs} {r : Int32} (h : fX2_isBetter_J46 n s = some r) : zr kX2_isBetter 2 1 46 [none, none, none, none, none] [] (zS c s) (some (.int r)) (zS c s) := by
  unfold fX2_isBetter_J46 at h
  refine zr_many 1 (pc' := 47) (L' := [none, none, none, none, none]) (st' := [.int (0 : Int32)]) (S1 := zS c s) rfl ?_
  exact zr_wk [none, none, none, none, none] trivial (tX2_isBetter_J47 h)
def fX2_isBetter (n : Nat) (s : zs) (x1 : Int32) (x2 : Int32) : Option Int32 := zp (fX0_feesOf n s x1) (fun r1 => zp (fX0_feesOf n s x2) (fun r4 => if r1 < r4 then fX2_isBetter_J42 n s else if ¬ r1 = r4 then fX2_isBetter_J46 n s else zp (fJ6_bitCount_0f7a4 n s x1) (fun r9 => zp (fJ6_bitCount_0f7a4 n s x2) (fun r12 => if r12 ≤ r9 then fX2_isBetter_J46 n s else fX2_isBetter_J42 n s))))
theorem tX2_isBetter {n : Nat} {c : Nat × Nat} {s : zs} {x1 : Int32} {x2 : Int32} {r : Int32} (h : fX2_isBetter n s x1 x2 = some r) : zc 2 404 [.ref 41, .int x1, .int x2] (zS c s) (some (.int r)) (zS c s) := by
  refine zc_of (k := kX2_isBetter) (rt := 2) (L := [some (.ref 41), some (.int x1), some (.int x2), none, none]) zm_404.1 rfl rfl (by decide) rfl rfl ?_
  unfold fX2_isBetter at h
  refine zr_many 1 (pc' := 1) (L' := [some (.ref 41), some (.int x1), some (.int x2), none, none]) (st' := [.ref 41]) (S1 := zS c s) rfl ?_
  refine zq_get rfl (zh_41 _) rfl rfl rfl ?_
  refine zr_many 1 (pc' := 5) (L' := [some (.ref 41), some (.int x1), some (.int x2), none, none]) (st' := [.int x1, .ref 5]) (S1 := zS c s) rfl ?_
  obtain ⟨r1, g3, h⟩ := zp_inv h
  refine zq_call1 rfl rfl (zh_5 _) rfl rfl rfl (tX0_feesOf g3) rfl ?_
  refine zr_many 2 (pc' := 10) (L' := [some (.ref 41), some (.int x1), some (.int x2), some (.int r1), none]) (st' := [.ref 41]) (S1 := zS c s) rfl ?_
  refine zq_get rfl (zh_41 _) rfl rfl rfl ?_
  refine zr_many 1 (pc' := 14) (L' := [some (.ref 41), some (.int x1), some (.int x2), some (.int r1), none]) (st' := [.int x2, .ref 5]) (S1 := zS c s) rfl ?_
  obtain ⟨r4, g6, h⟩ := zp_inv h
  refine zq_call1 rfl rfl (zh_5 _) rfl rfl rfl (tX0_feesOf g6) rfl ?_
  refine zr_many 3 (pc' := 22) (L' := [some (.ref 41), some (.int x1), some (.int x2), some (.int r1), some (.int r4)]) (st' := [.int r4, .int r1]) (S1 := zS c s) rfl ?_
  refine zq_if2 (b := r1 < r4) rfl Iff.rfl rfl (fun g7 => ?_) (fun g7 => ?_)
  · rw [if_pos g7] at h
    exact zr_wk [none, none, none, none, none] trivial (tX2_isBetter_J42 h)
  · rw [if_neg g7] at h
    refine zr_many 2 (pc' := 28) (L' := [some (.ref 41), some (.int x1), some (.int x2), some (.int r1), some (.int r4)]) (st' := [.int r4, .int r1]) (S1 := zS c s) rfl ?_
    refine zq_if2 (b := ¬ r1 = r4) rfl Iff.rfl rfl (fun g8 => ?_) (fun g8 => ?_)
    · rw [if_pos g8] at h
      exact zr_wk [none, none, none, none, none] trivial (tX2_isBetter_J46 h)
    · rw [if_neg g8] at h
      refine zr_many 1 (pc' := 32) (L' := [some (.ref 41), some (.int x1), some (.int x2), some (.int r1), some (.int r4)]) (st' := [.int x1]) (S1 := zS c s) rfl ?_
      obtain ⟨r9, g11, h⟩ := zp_inv h
      refine zq_scall1 rfl (by decide) rfl rfl (tJ6_bitCount_0f7a4 g11) rfl ?_
      refine zr_many 1 (pc' := 36) (L' := [some (.ref 41), some (.int x1), some (.int x2), some (.int r1), some (.int r4)]) (st' := [.int x2, .int r9]) (S1 := zS c s) rfl ?_
      obtain ⟨r12, g14, h⟩ := zp_inv h
      refine zq_scall1 rfl (by decide) rfl rfl (tJ6_bitCount_0f7a4 g14) rfl ?_
      refine zq_if2 (b := r12 ≤ r9) rfl Iff.rfl rfl (fun g15 => ?_) (fun g15 => ?_)
      · rw [if_pos g15] at h
        exact zr_wk [none, none, none, none, none] trivial (tX2_isBetter_J46 h)
      · rw [if_neg g15] at h
        exact zr_wk [none, none, none, none, none] trivial (tX2_isBetter_J42 h)
def fX2_cheapest_J43 (n : Nat) (s : zs) (x1 : Int32) (x2 : Int32) (x3 : Int32) : Option ((Int32 × Int32) ⊕ (Int32)) := some (Sum.inl (x2, (x3 + (1 : Int32))))
theorem tX2_cheapest_J43 {n : Nat} {c : Nat × Nat} {s : zs} {x1 : Int32} {x2 : Int32} {x3 : Int32} {o : _} {v : Option Value} {S' : zi_S} (h : fX2_cheapest_J43 n s x1 x2 x3 = some o) (hn : ∀ w4, o = Sum.inl w4 → zr kX2_cheapest 1 2 4 [some (.ref 41), some (.int x1), some (.int w4.1), some (.int w4.2)] [] (zS c s) v S') (hx : ∀ z, o = Sum.inr z → (fun z => zr kX2_cheapest 1 2 49 [none, none, some (.int z), none] [] (zS c s) v S') z) : zr kX2_cheapest 1 2 43 [some (.ref 41), some (.int x1), some (.int x2), some (.int x3)] [] (zS c s) v S' := by
  unfold fX2_cheapest_J43 at h
  refine zr_many 2 (pc' := 4) (L' := [some (.ref 41), some (.int x1), some (.int x2), some (.int (x3 + (1 : Int32)))]) (st' := []) (S1 := zS c s) rfl ?_
  obtain rfl := Option.some.inj h
  exact zr_wk [some (.ref 41), some (.int x1), some (.int x2), some (.int (x3 + (1 : Int32)))] ⟨rfl, rfl, rfl, rfl, trivial⟩ (hn (x2, (x3 + (1 : Int32))) rfl)
def fX2_cheapest_J41 (n : Nat) (s : zs) (x1 : Int32) (x3 : Int32) : Option ((Int32 × Int32) ⊕ (Int32)) := fX2_cheapest_J43 n s x1 x3 x3
theorem tX2_cheapest_J41 {n : Nat} {c : Nat × Nat} {s : zs} {x1 : Int32} {x3 : Int32} {o : _} {v : Option Value} {S' : zi_S} (h : fX2_cheapest_J41 n s x1 x3 = some o) (hn : ∀ w4, o = Sum.inl w4 → zr kX2_cheapest 1 2 4 [some (.ref 41), some (.int x1), some (.int w4.1), some (.int w4.2)] [] (zS c s) v S') (hx : ∀ z, o = Sum.inr z → (fun z => zr kX2_cheapest 1 2 49 [none, none, some (.int z), none] [] (zS c s) v S') z) : zr kX2_cheapest 1 2 41 [some (.ref 41), some (.int x1), none, some (.int x3)] [] (zS c s) v S' := by
  unfold fX2_cheapest_J41 at h
  refine zr_many 2 (pc' := 43) (L' := [some (.ref 41), some (.int x1), some (.int x3), some (.int x3)]) (st' := []) (S1 := zS c s) rfl ?_
  exact zr_wk [some (.ref 41), some (.int x1), some (.int x3), some (.int x3)] ⟨rfl, rfl, rfl, rfl, trivial⟩ (tX2_cheapest_J43 h hn hx)
def fX2_cheapest_B4 (n : Nat) (s : zs) (x1 : Int32) (w4 : Int32 × Int32) : Option ((Int32 × Int32) ⊕ (Int32)) := if (256 : Int32) ≤ w4.2 then some (Sum.inr w4.1) else cond (zi_in w4.2 256) (if (s.1 42 w4.2.toNatClampNeg) = 0 then fX2_cheapest_J43 n s x1 w4.1 w4.2 else if ¬ (w4.2 &&& (x1 ^^^ (-1 : Int32))) = 0 then fX2_cheapest_J43 n s x1 w4.1 w4.2 else if w4.1 < 0 then fX2_cheapest_J41 n s x1 w4.2 else zp (fX2_isBetter n s w4.2 w4.1) (fun r6 => if r6 = 0 then fX2_cheapest_J43 n s x1 w4.1 w4.2 else fX2_cheapest_J41 n s x1 w4.2)) none
theorem tX2_cheapest_B4 {n : Nat} {c : Nat × Nat} {s : zs} {x1 : Int32} {w4 : Int32 × Int32} {o : _} {v : Option Value} {S' : zi_S} (h : fX2_cheapest_B4 n s x1 w4 = some o) (hn : ∀ w4, o = Sum.inl w4 → zr kX2_cheapest 1 2 4 [some (.ref 41), some (.int x1), some (.int w4.1), some (.int w4.2)] [] (zS c s) v S') (hx : ∀ z, o = Sum.inr z → (fun z => zr kX2_cheapest 1 2 49 [none, none, some (.int z), none] [] (zS c s) v S') z) : zr kX2_cheapest 1 2 4 [some (.ref 41), some (.int x1), some (.int w4.1), some (.int w4.2)] [] (zS c s) v S' := by
  unfold fX2_cheapest_B4 at h
  refine zr_many 2 (pc' := 8) (L' := [some (.ref 41), some (.int x1), some (.int w4.1), some (.int w4.2)]) (st' := [.int (256 : Int32), .int w4.2]) (S1 := zS c s) rfl ?_
  refine zq_if2 (b := (256 : Int32) ≤ w4.2) rfl Iff.rfl rfl (fun g1 => ?_) (fun g1 => ?_)
  · rw [if_pos g1] at h
    obtain rfl := Option.some.inj h
    exact zr_wk [none, none, some (.int w4.1), none] ⟨rfl, trivial⟩ (hx w4.1 rfl)
  · rw [if_neg g1] at h
    refine zr_many 1 (pc' := 12) (L' := [some (.ref 41), some (.int x1), some (.int w4.1), some (.int w4.2)]) (st' := [.ref 41]) (S1 := zS c s) rfl ?_
    refine zq_get rfl (zh_41 _) rfl rfl rfl ?_
    refine zr_many 1 (pc' := 16) (L' := [some (.ref 41), some (.int x1), some (.int w4.1), some (.int w4.2)]) (st' := [.int w4.2, .ref 42]) (S1 := zS c s) rfl ?_
    obtain ⟨g2, h⟩ := zi_cond_inv h
    refine zq_zld rfl (zh_42 _) rfl g2 rfl ?_
    refine zq_if1 (b := (s.1 42 w4.2.toNatClampNeg) = 0) rfl Iff.rfl rfl (fun g3 => ?_) (fun g3 => ?_)
    · rw [if_pos g3] at h
      exact zr_wk [some (.ref 41), some (.int x1), some (.int w4.1), some (.int w4.2)] ⟨rfl, rfl, rfl, rfl, trivial⟩ (tX2_cheapest_J43 h hn hx)
    · rw [if_neg g3] at h
      refine zr_many 5 (pc' := 25) (L' := [some (.ref 41), some (.int x1), some (.int w4.1), some (.int w4.2)]) (st' := [.int (w4.2 &&& (x1 ^^^ (-1 : Int32)))]) (S1 := zS c s) rfl ?_
      refine zq_if1 (b := ¬ (w4.2 &&& (x1 ^^^ (-1 : Int32))) = 0) rfl Iff.rfl rfl (fun g4 => ?_) (fun g4 => ?_)
      · rw [if_pos g4] at h
        exact zr_wk [some (.ref 41), some (.int x1), some (.int w4.1), some (.int w4.2)] ⟨rfl, rfl, rfl, rfl, trivial⟩ (tX2_cheapest_J43 h hn hx)
      · rw [if_neg g4] at h
        refine zr_many 1 (pc' := 29) (L' := [some (.ref 41), some (.int x1), some (.int w4.1), some (.int w4.2)]) (st' := [.int w4.1]) (S1 := zS c s) rfl ?_
        refine zq_if1 (b := w4.1 < 0) rfl Iff.rfl rfl (fun g5 => ?_) (fun g5 => ?_)
        · rw [if_pos g5] at h
          exact zr_wk [some (.ref 41), some (.int x1), none, some (.int w4.2)] ⟨rfl, rfl, rfl, trivial⟩ (tX2_cheapest_J41 h hn hx)
        · rw [if_neg g5] at h
          refine zr_many 3 (pc' := 35) (L' := [some (.ref 41), some (.int x1), some (.int w4.1), some (.int w4.2)]) (st' := [.int w4.1, .int w4.2, .ref 41]) (S1 := zS c s) rfl ?_
          obtain ⟨r6, g8, h⟩ := zp_inv h
          refine zq_call1 rfl rfl (zh_41 _) rfl rfl rfl (tX2_isBetter g8) rfl ?_
          refine zq_if1 (b := r6 = 0) rfl Iff.rfl rfl (fun g9 => ?_) (fun g9 => ?_)
          · rw [if_pos g9] at h
            exact zr_wk [some (.ref 41), some (.int x1), some (.int w4.1), some (.int w4.2)] ⟨rfl, rfl, rfl, rfl, trivial⟩ (tX2_cheapest_J43 h hn hx)
          · rw [if_neg g9] at h
            exact zr_wk [some (.ref 41), some (.int x1), none, some (.int w4.2)] ⟨rfl, rfl, rfl, trivial⟩ (tX2_cheapest_J41 h hn hx)
def fX2_cheapest (n : Nat) (s : zs) (x1 : Int32) : Option Int32 := zp (zl (fX2_cheapest_B4 n s x1) n ((-1 : Int32), (0 : Int32))) (fun w10 => some w10)
theorem tX2_cheapest {n : Nat} {c : Nat × Nat} {s : zs} {x1 : Int32} {r : Int32} (h : fX2_cheapest n s x1 = some r) : zc 3 403 [.ref 41, .int x1] (zS c s) (some (.int r)) (zS c s) := by
  refine zc_of (k := kX2_cheapest) (rt := 1) (L := [some (.ref 41), some (.int x1), none, none]) zm_403.1 rfl rfl (by decide) rfl rfl ?_
  unfold fX2_cheapest at h
  refine zr_many 4 (pc' := 4) (L' := [some (.ref 41), some (.int x1), some (.int (-1 : Int32)), some (.int (0 : Int32))]) (st' := []) (S1 := zS c s) rfl ?_
  obtain ⟨w10, g11, h⟩ := zp_inv h
  refine zr_wk [some (.ref 41), some (.int x1), some (.int (-1 : Int32)), some (.int (0 : Int32))] ⟨rfl, rfl, rfl, rfl, trivial⟩ (zl_cert (Z := fun w4 => zr kX2_cheapest 1 2 4 [some (.ref 41), some (.int x1), some (.int w4.1), some (.int w4.2)] [] (zS c s) _ _) (Y := (fun z => zr kX2_cheapest 1 2 49 [none, none, some (.int z), none] [] (zS c s) _ _)) (fun w o h1 h2 h3 => tX2_cheapest_B4 h1 h2 h3) n _ _ g11 ?_)
  show zr kX2_cheapest 1 2 49 [none, none, some (.int w10), none] [] (zS c s) _ _
  refine zr_many 1 (pc' := 50) (L' := [none, none, some (.int w10), none]) (st' := [.int w10]) (S1 := zS c s) rfl ?_
  obtain rfl := Option.some.inj h
  exact zq_iret rfl
def fX3_copy (n : Nat) (s : zs) (m0 : Nat) (m1 : Nat) : Option zs := zt (zsi s m0 0 (s.1 m1 0)) (fun s1 => zt (zsi s1 m0 1 (s1.1 m1 1)) (fun s3 => zt (zsi s3 m0 2 (s3.1 m1 2)) (fun s5 => zt (zsf s5 (m0 + 1) (va_cpy (s5.1 (m1 + 1)) (s5.1 (m0 + 1)) 0 0 8)) (fun s7 => zt (zsf s7 (m0 + 2) (va_cpy (s7.1 (m1 + 2)) (s7.1 (m0 + 2)) 0 0 8)) (fun s9 => zt (zsf s9 (m0 + 3) (va_cpy (s9.1 (m1 + 3)) (s9.1 (m0 + 3)) 0 0 8)) (fun s11 => zt (zsf s11 (m0 + 4) (va_cpy (s11.1 (m1 + 4)) (s11.1 (m0 + 4)) 0 0 4)) (fun s13 => some (zsf s13 (m0 + 5) (va_cpy (s13.1 (m1 + 5)) (s13.1 (m0 + 5)) 0 0 4)))))))))
theorem tX3_copy {n : Nat} {c : Nat × Nat} {s : zs} {m0 : Nat} {m1 : Nat} {s' : zs} (hm0 : zM m0) (hm1 : zM m1) (h : fX3_copy n s m0 m1 = some s') : zc 1 601 [.ref m0, .ref m1] (zS c s) none (zS c s') := by
  refine zc_of (k := kX3_copy) (rt := 0) (L := [some (.ref m0), some (.ref m1)]) zm_601.1 rfl rfl (by decide) rfl rfl ?_
  unfold fX3_copy at h
  refine zr_many 2 (pc' := 2) (L' := [some (.ref m0), some (.ref m1)]) (st' := [.ref m1, .ref m0]) (S1 := zS c s) rfl ?_
  refine zq_get rfl (zhM_0 hm1 _) (zM_lt (j := 0) hm1 (by decide)) rfl rfl ?_
  refine zq_putM rfl hm0 (by decide) rfl ?_
  refine zr_many 2 (pc' := 10) (L' := [some (.ref m0), some (.ref m1)]) (st' := [.ref m1, .ref m0]) (S1 := zS c (zsi s m0 0 (s.1 m1 0))) rfl ?_
  refine zq_get rfl (zhM_0 hm1 _) (zM_lt (j := 0) hm1 (by decide)) rfl rfl ?_
  obtain ⟨s1, e2, h⟩ := zt_in h
  rw [← e2]
  refine zq_putM rfl hm0 (by decide) rfl ?_
  refine zr_many 2 (pc' := 18) (L' := [some (.ref m0), some (.ref m1)]) (st' := [.ref m1, .ref m0]) (S1 := zS c (zsi s1 m0 1 (s1.1 m1 1))) rfl ?_
  refine zq_get rfl (zhM_0 hm1 _) (zM_lt (j := 0) hm1 (by decide)) rfl rfl ?_
  obtain ⟨s3, e4, h⟩ := zt_in h
  rw [← e4]
  refine zq_putM rfl hm0 (by decide) rfl ?_
  refine zr_many 1 (pc' := 25) (L' := [some (.ref m0), some (.ref m1)]) (st' := [.ref m1]) (S1 := zS c (zsi s3 m0 2 (s3.1 m1 2))) rfl ?_
  refine zq_get rfl (zhM_0 hm1 _) (zM_lt (j := 0) hm1 (by decide)) rfl rfl ?_
  refine zr_many 2 (pc' := 30) (L' := [some (.ref m0), some (.ref m1)]) (st' := [.ref m0, .int (0 : Int32), .ref (m1 + 1)]) (S1 := zS c (zsi s3 m0 2 (s3.1 m1 2))) rfl ?_
  refine zq_get rfl (zhM_0 hm0 _) (zM_lt (j := 0) hm0 (by decide)) rfl rfl ?_
  refine zr_many 2 (pc' := 36) (L' := [some (.ref m0), some (.ref m1)]) (st' := [.int (8 : Int32), .int (0 : Int32), .ref (m0 + 1), .int (0 : Int32), .ref (m1 + 1)]) (S1 := zS c (zsi s3 m0 2 (s3.1 m1 2))) rfl ?_
  obtain ⟨s5, e6, h⟩ := zt_in h
  rw [← e6]
  refine zq_cpy rfl (zhM_1 hm0) (zhM_1 hm1 _) (zM_lt (j := 1) hm0 (by decide)) (zM_lt (j := 1) hm1 (by decide)) (by decide) (by decide) (by decide) (by decide) (by decide) rfl rfl ?_
  refine zr_many 1 (pc' := 40) (L' := [some (.ref m0), some (.ref m1)]) (st' := [.ref m1]) (S1 := zS c (zsf s5 (m0 + 1) (va_cpy (s5.1 (m1 + 1)) (s5.1 (m0 + 1)) 0 0 8))) rfl ?_
  refine zq_get rfl (zhM_0 hm1 _) (zM_lt (j := 0) hm1 (by decide)) rfl rfl ?_
  refine zr_many 2 (pc' := 45) (L' := [some (.ref m0), some (.ref m1)]) (st' := [.ref m0, .int (0 : Int32), .ref (m1 + 2)]) (S1 := zS c (zsf s5 (m0 + 1) (va_cpy (s5.1 (m1 + 1)) (s5.1 (m0 + 1)) 0 0 8))) rfl ?_
  refine zq_get rfl (zhM_0 hm0 _) (zM_lt (j := 0) hm0 (by decide)) rfl rfl ?_
  refine zr_many 2 (pc' := 51) (L' := [some (.ref m0), some (.ref m1)]) (st' := [.int (8 : Int32), .int (0 : Int32), .ref (m0 + 2), .int (0 : Int32), .ref (m1 + 2)]) (S1 := zS c (zsf s5 (m0 + 1) (va_cpy (s5.1 (m1 + 1)) (s5.1 (m0 + 1)) 0 0 8))) rfl ?_
  obtain ⟨s7, e8, h⟩ := zt_in h
  rw [← e8]
  refine zq_cpy rfl (zhM_2 hm0) (zhM_2 hm1 _) (zM_lt (j := 2) hm0 (by decide)) (zM_lt (j := 2) hm1 (by decide)) (by decide) (by decide) (by decide) (by decide) (by decide) rfl rfl ?_
  refine zr_many 1 (pc' := 55) (L' := [some (.ref m0), some (.ref m1)]) (st' := [.ref m1]) (S1 := zS c (zsf s7 (m0 + 2) (va_cpy (s7.1 (m1 + 2)) (s7.1 (m0 + 2)) 0 0 8))) rfl ?_
  refine zq_get rfl (zhM_0 hm1 _) (zM_lt (j := 0) hm1 (by decide)) rfl rfl ?_
  refine zr_many 2 (pc' := 60) (L' := [some (.ref m0), some (.ref m1)]) (st' := [.ref m0, .int (0 : Int32), .ref (m1 + 3)]) (S1 := zS c (zsf s7 (m0 + 2) (va_cpy (s7.1 (m1 + 2)) (s7.1 (m0 + 2)) 0 0 8))) rfl ?_
  refine zq_get rfl (zhM_0 hm0 _) (zM_lt (j := 0) hm0 (by decide)) rfl rfl ?_
  refine zr_many 2 (pc' := 66) (L' := [some (.ref m0), some (.ref m1)]) (st' := [.int (8 : Int32), .int (0 : Int32), .ref (m0 + 3), .int (0 : Int32), .ref (m1 + 3)]) (S1 := zS c (zsf s7 (m0 + 2) (va_cpy (s7.1 (m1 + 2)) (s7.1 (m0 + 2)) 0 0 8))) rfl ?_
  obtain ⟨s9, e10, h⟩ := zt_in h
  rw [← e10]
  refine zq_cpy rfl (zhM_3 hm0) (zhM_3 hm1 _) (zM_lt (j := 3) hm0 (by decide)) (zM_lt (j := 3) hm1 (by decide)) (by decide) (by decide) (by decide) (by decide) (by decide) rfl rfl ?_
  refine zr_many 1 (pc' := 70) (L' := [some (.ref m0), some (.ref m1)]) (st' := [.ref m1]) (S1 := zS c (zsf s9 (m0 + 3) (va_cpy (s9.1 (m1 + 3)) (s9.1 (m0 + 3)) 0 0 8))) rfl ?_
  refine zq_get rfl (zhM_0 hm1 _) (zM_lt (j := 0) hm1 (by decide)) rfl rfl ?_
  refine zr_many 2 (pc' := 75) (L' := [some (.ref m0), some (.ref m1)]) (st' := [.ref m0, .int (0 : Int32), .ref (m1 + 4)]) (S1 := zS c (zsf s9 (m0 + 3) (va_cpy (s9.1 (m1 + 3)) (s9.1 (m0 + 3)) 0 0 8))) rfl ?_
  refine zq_get rfl (zhM_0 hm0 _) (zM_lt (j := 0) hm0 (by decide)) rfl rfl ?_
  refine zr_many 2 (pc' := 80) (L' := [some (.ref m0), some (.ref m1)]) (st' := [.int (4 : Int32), .int (0 : Int32), .ref (m0 + 4), .int (0 : Int32), .ref (m1 + 4)]) (S1 := zS c (zsf s9 (m0 + 3) (va_cpy (s9.1 (m1 + 3)) (s9.1 (m0 + 3)) 0 0 8))) rfl ?_
  obtain ⟨s11, e12, h⟩ := zt_in h
  rw [← e12]
  refine zq_cpy rfl (zhM_4 hm0) (zhM_4 hm1 _) (zM_lt (j := 4) hm0 (by decide)) (zM_lt (j := 4) hm1 (by decide)) (by decide) (by decide) (by decide) (by decide) (by decide) rfl rfl ?_
  refine zr_many 1 (pc' := 84) (L' := [some (.ref m0), some (.ref m1)]) (st' := [.ref m1]) (S1 := zS c (zsf s11 (m0 + 4) (va_cpy (s11.1 (m1 + 4)) (s11.1 (m0 + 4)) 0 0 4))) rfl ?_
  refine zq_get rfl (zhM_0 hm1 _) (zM_lt (j := 0) hm1 (by decide)) rfl rfl ?_
  refine zr_many 2 (pc' := 89) (L' := [some (.ref m0), some (.ref m1)]) (st' := [.ref m0, .int (0 : Int32), .ref (m1 + 5)]) (S1 := zS c (zsf s11 (m0 + 4) (va_cpy (s11.1 (m1 + 4)) (s11.1 (m0 + 4)) 0 0 4))) rfl ?_
  refine zq_get rfl (zhM_0 hm0 _) (zM_lt (j := 0) hm0 (by decide)) rfl rfl ?_
  refine zr_many 2 (pc' := 94) (L' := [some (.ref m0), some (.ref m1)]) (st' := [.int (4 : Int32), .int (0 : Int32), .ref (m0 + 5), .int (0 : Int32), .ref (m1 + 5)]) (S1 := zS c (zsf s11 (m0 + 4) (va_cpy (s11.1 (m1 + 4)) (s11.1 (m0 + 4)) 0 0 4))) rfl ?_
  obtain ⟨s13, e14, h⟩ := zt_in h
  rw [← e14]
  refine zq_cpy rfl (zhM_5 hm0) (zhM_5 hm1 _) (zM_lt (j := 5) hm0 (by decide)) (zM_lt (j := 5) hm1 (by decide)) (by decide) (by decide) (by decide) (by decide) (by decide) rfl rfl ?_
  obtain rfl := Option.some.inj h
  exact zq_vret rfl
def fX3_levelOf (n : Nat) (s : zs) (m0 : Nat) (x1 : Int32) : Option Int32 := some (((s.1 m0 0) >>> (x1 &&& 31)) &&& (1 : Int32))
theorem tX3_levelOf {n : Nat} {c : Nat × Nat} {s : zs} {m0 : Nat} {x1 : Int32} {r : Int32} (hm0 : zM m0) (h : fX3_levelOf n s m0 x1 = some r) : zc 1 602 [.ref m0, .int x1] (zS c s) (some (.int r)) (zS c s) := by
  refine zc_of (k := kX3_levelOf) (rt := 1) (L := [some (.ref m0), some (.int x1)]) zm_602.1 rfl rfl (by decide) rfl rfl ?_
  unfold fX3_levelOf at h
  refine zr_many 1 (pc' := 1) (L' := [some (.ref m0), some (.int x1)]) (st' := [.ref m0]) (S1 := zS c s) rfl ?_
  refine zq_get rfl (zhM_0 hm0 _) (zM_lt (j := 0) hm0 (by decide)) rfl rfl ?_
  refine zr_many 4 (pc' := 8) (L' := [some (.ref m0), some (.int x1)]) (st' := [.int (((s.1 m0 0) >>> (x1 &&& 31)) &&& (1 : Int32))]) (S1 := zS c s) rfl ?_
  obtain rfl := Option.some.inj h
  exact zq_iret rfl
def fX3_setLevel (n : Nat) (s : zs) (m0 : Nat) (x1 : Int32) (x2 : Int32) : Option zs := some (zsi s m0 0 (((s.1 m0 0) &&& (((1 : Int32) <<< (x1 &&& 31)) ^^^ (-1 : Int32))) ||| (x2 <<< (x1 &&& 31))))
theorem tX3_setLevel {n : Nat} {c : Nat × Nat} {s : zs} {m0 : Nat} {x1 : Int32} {x2 : Int32} {s' : zs} (hm0 : zM m0) (h : fX3_setLevel n s m0 x1 x2 = some s') : zc 1 603 [.ref m0, .int x1, .int x2] (zS c s) none (zS c s') := by
  refine zc_of (k := kX3_setLevel) (rt := 0) (L := [some (.ref m0), some (.int x1), some (.int x2)]) zm_603.1 rfl rfl (by decide) rfl rfl ?_
  unfold fX3_setLevel at h
  refine zr_many 2 (pc' := 2) (L' := [some (.ref m0), some (.int x1), some (.int x2)]) (st' := [.ref m0, .ref m0]) (S1 := zS c s) rfl ?_
  refine zq_get rfl (zhM_0 hm0 _) (zM_lt (j := 0) hm0 (by decide)) rfl rfl ?_
  refine zr_many 10 (pc' := 15) (L' := [some (.ref m0), some (.int x1), some (.int x2)]) (st' := [.int (((s.1 m0 0) &&& (((1 : Int32) <<< (x1 &&& 31)) ^^^ (-1 : Int32))) ||| (x2 <<< (x1 &&& 31))), .ref m0]) (S1 := zS c s) rfl ?_
  refine zq_putM rfl hm0 (by decide) rfl ?_
  obtain rfl := Option.some.inj h
  exact zq_vret rfl
def fX3_whereIs_J31 (n : Nat) (s : zs) (y0 : Int32) : Option Int32 := some y0
theorem tX3_whereIs_J31 {n : Nat} {c : Nat × Nat} {s : zs} {y0 : Int32} {r : Int32} (h : fX3_whereIs_J31 n s y0 = some r) : zr kX3_whereIs 1 0 31 [none, none, none] [.int y0] (zS c s) (some (.int r)) (zS c s) := by
  unfold fX3_whereIs_J31 at h
  obtain rfl := Option.some.inj h
  exact zq_iret rfl
def fX3_whereIs_J25 (n : Nat) (s : zs) (m0 : Nat) (x1 : Int32) : Option Int32 := cond (zi_in x1 8) (fX3_whereIs_J31 n s (s.1 (m0 + 1) x1.toNatClampNeg)) none
theorem tX3_whereIs_J25 {n : Nat} {c : Nat × Nat} {s : zs} {m0 : Nat} {x1 : Int32} {r : Int32} (hm0 : zM m0) (h : fX3_whereIs_J25 n s m0 x1 = some r) : zr kX3_whereIs 1 0 25 [some (.ref m0), some (.int x1), none] [] (zS c s) (some (.int r)) (zS c s) := by
  unfold fX3_whereIs_J25 at h
  refine zr_many 1 (pc' := 26) (L' := [some (.ref m0), some (.int x1), none]) (st' := [.ref m0]) (S1 := zS c s) rfl ?_
  refine zq_get rfl (zhM_0 hm0 _) (zM_lt (j := 0) hm0 (by decide)) rfl rfl ?_
  refine zr_many 1 (pc' := 30) (L' := [some (.ref m0), some (.int x1), none]) (st' := [.int x1, .ref (m0 + 1)]) (S1 := zS c s) rfl ?_
  obtain ⟨g3, h⟩ := zi_cond_inv h
  refine zq_ild rfl (zhM_1 hm0 _) (zM_lt (j := 1) hm0 (by decide)) g3 rfl ?_
  exact zr_wk [none, none, none] trivial (tX3_whereIs_J31 h)
def fX3_whereIs (n : Nat) (s : zs) (m0 : Nat) (x1 : Int32) : Option Int32 := cond (zi_in x1 8) (if (s.1 (m0 + 2) x1.toNatClampNeg) < 0 then fX3_whereIs_J25 n s m0 x1 else if (4 : Int32) ≤ (s.1 (m0 + 2) x1.toNatClampNeg) then fX3_whereIs_J25 n s m0 x1 else cond (zi_in (s.1 (m0 + 2) x1.toNatClampNeg) 4) (fX3_whereIs_J31 n s (s.1 (m0 + 4) (s.1 (m0 + 2) x1.toNatClampNeg).toNatClampNeg)) none) none
theorem tX3_whereIs {n : Nat} {c : Nat × Nat} {s : zs} {m0 : Nat} {x1 : Int32} {r : Int32} (hm0 : zM m0) (h : fX3_whereIs n s m0 x1 = some r) : zc 1 604 [.ref m0, .int x1] (zS c s) (some (.int r)) (zS c s) := by
  refine zc_of (k := kX3_whereIs) (rt := 1) (L := [some (.ref m0), some (.int x1), none]) zm_604.1 rfl rfl (by decide) rfl rfl ?_
  unfold fX3_whereIs at h
  refine zr_many 1 (pc' := 1) (L' := [some (.ref m0), some (.int x1), none]) (st' := [.ref m0]) (S1 := zS c s) rfl ?_
  refine zq_get rfl (zhM_0 hm0 _) (zM_lt (j := 0) hm0 (by decide)) rfl rfl ?_
  refine zr_many 1 (pc' := 5) (L' := [some (.ref m0), some (.int x1), none]) (st' := [.int x1, .ref (m0 + 2)]) (S1 := zS c s) rfl ?_
  obtain ⟨g1, h⟩ := zi_cond_inv h
  refine zq_ild rfl (zhM_2 hm0 _) (zM_lt (j := 2) hm0 (by decide)) g1 rfl ?_
  refine zr_many 2 (pc' := 8) (L' := [some (.ref m0), some (.int x1), some (.int (s.1 (m0 + 2) x1.toNatClampNeg))]) (st' := [.int (s.1 (m0 + 2) x1.toNatClampNeg)]) (S1 := zS c s) rfl ?_
  refine zq_if1 (b := (s.1 (m0 + 2) x1.toNatClampNeg) < 0) rfl Iff.rfl rfl (fun g2 => ?_) (fun g2 => ?_)
  · rw [if_pos g2] at h
    exact zr_wk [some (.ref m0), some (.int x1), none] ⟨rfl, rfl, trivial⟩ (tX3_whereIs_J25 hm0 h)
  · rw [if_neg g2] at h
    refine zr_many 2 (pc' := 13) (L' := [some (.ref m0), some (.int x1), some (.int (s.1 (m0 + 2) x1.toNatClampNeg))]) (st' := [.int (4 : Int32), .int (s.1 (m0 + 2) x1.toNatClampNeg)]) (S1 := zS c s) rfl ?_
    refine zq_if2 (b := (4 : Int32) ≤ (s.1 (m0 + 2) x1.toNatClampNeg)) rfl Iff.rfl rfl (fun g4 => ?_) (fun g4 => ?_)
    · rw [if_pos g4] at h
      exact zr_wk [some (.ref m0), some (.int x1), none] ⟨rfl, rfl, trivial⟩ (tX3_whereIs_J25 hm0 h)
    · rw [if_neg g4] at h
      refine zr_many 1 (pc' := 17) (L' := [some (.ref m0), some (.int x1), some (.int (s.1 (m0 + 2) x1.toNatClampNeg))]) (st' := [.ref m0]) (S1 := zS c s) rfl ?_
      refine zq_get rfl (zhM_0 hm0 _) (zM_lt (j := 0) hm0 (by decide)) rfl rfl ?_
      refine zr_many 1 (pc' := 21) (L' := [some (.ref m0), some (.int x1), some (.int (s.1 (m0 + 2) x1.toNatClampNeg))]) (st' := [.int (s.1 (m0 + 2) x1.toNatClampNeg), .ref (m0 + 4)]) (S1 := zS c s) rfl ?_
      obtain ⟨g5, h⟩ := zi_cond_inv h
      refine zq_ild rfl (zhM_4 hm0 _) (zM_lt (j := 4) hm0 (by decide)) g5 rfl ?_
      refine zr_many 1 (pc' := 31) (L' := [some (.ref m0), some (.int x1), some (.int (s.1 (m0 + 2) x1.toNatClampNeg))]) (st' := [.int (s.1 (m0 + 4) (s.1 (m0 + 2) x1.toNatClampNeg).toNatClampNeg)]) (S1 := zS c s) rfl ?_
      exact zr_wk [none, none, none] trivial (tX3_whereIs_J31 h)
def fX3_letGoBy_B30 (n : Nat) (m0 : Nat) (x2 : Int32) (w30 : Int32 × zs) : Option ((Int32 × zs) ⊕ (zs)) := if (8 : Int32) ≤ w30.1 then some (Sum.inr w30.2) else cond (zi_in w30.1 8) (cond (zi_in w30.1 8) (some (Sum.inl ((w30.1 + (1 : Int32)), (zsi w30.2 (m0 + 3) w30.1.toNatClampNeg (if (0 : Int32) < ((w30.2.1 (m0 + 3) w30.1.toNatClampNeg) - x2) then ((w30.2.1 (m0 + 3) w30.1.toNatClampNeg) - x2) else (0 : Int32)))))) none) none
theorem tX3_letGoBy_B30 {n : Nat} {c : Nat × Nat} {m0 : Nat} {x2 : Int32} {w30 : Int32 × zs} {o : _} {v : Option Value} {S' : zi_S} (hm0 : zM m0) (h : fX3_letGoBy_B30 n m0 x2 w30 = some o) (hn : ∀ w30, o = Sum.inl w30 → zr kX3_letGoBy 0 0 30 [some (.ref m0), none, some (.int x2), some (.int w30.1)] [] (zS c w30.2) v S') (hx : ∀ z, o = Sum.inr z → (fun z => zr kX3_letGoBy 0 0 60 [none, none, none, none] [] (zS c z) v S') z) : zr kX3_letGoBy 0 0 30 [some (.ref m0), none, some (.int x2), some (.int w30.1)] [] (zS c w30.2) v S' := by
  unfold fX3_letGoBy_B30 at h
  refine zr_many 2 (pc' := 33) (L' := [some (.ref m0), none, some (.int x2), some (.int w30.1)]) (st' := [.int (8 : Int32), .int w30.1]) (S1 := zS c w30.2) rfl ?_
  refine zq_if2 (b := (8 : Int32) ≤ w30.1) rfl Iff.rfl rfl (fun g1 => ?_) (fun g1 => ?_)
  · rw [if_pos g1] at h
    obtain rfl := Option.some.inj h
    exact zr_wk [none, none, none, none] trivial (hx w30.2 rfl)
  · rw [if_neg g1] at h
    refine zr_many 1 (pc' := 37) (L' := [some (.ref m0), none, some (.int x2), some (.int w30.1)]) (st' := [.ref m0]) (S1 := zS c w30.2) rfl ?_
    refine zq_get rfl (zhM_0 hm0 _) (zM_lt (j := 0) hm0 (by decide)) rfl rfl ?_
    refine zr_many 3 (pc' := 43) (L' := [some (.ref m0), none, some (.int x2), some (.int w30.1)]) (st' := [.ref m0, .int (0 : Int32), .int w30.1, .ref (m0 + 3)]) (S1 := zS c w30.2) rfl ?_
    refine zq_get rfl (zhM_0 hm0 _) (zM_lt (j := 0) hm0 (by decide)) rfl rfl ?_
    refine zr_many 1 (pc' := 47) (L' := [some (.ref m0), none, some (.int x2), some (.int w30.1)]) (st' := [.int w30.1, .ref (m0 + 3), .int (0 : Int32), .int w30.1, .ref (m0 + 3)]) (S1 := zS c w30.2) rfl ?_
    obtain ⟨g2, h⟩ := zi_cond_inv h
    refine zq_ild rfl (zhM_3 hm0 _) (zM_lt (j := 3) hm0 (by decide)) g2 rfl ?_
    refine zr_many 3 (pc' := 53) (L' := [some (.ref m0), none, some (.int x2), some (.int w30.1)]) (st' := [.int (if (0 : Int32) < ((w30.2.1 (m0 + 3) w30.1.toNatClampNeg) - x2) then ((w30.2.1 (m0 + 3) w30.1.toNatClampNeg) - x2) else (0 : Int32)), .int w30.1, .ref (m0 + 3)]) (S1 := zS c w30.2) rfl ?_
    obtain ⟨g3, h⟩ := zi_cond_inv h
    refine zq_ist rfl (zhM_3 hm0) (zM_lt (j := 3) hm0 (by decide)) g3 rfl ?_
    refine zr_many 2 (pc' := 30) (L' := [some (.ref m0), none, some (.int x2), some (.int (w30.1 + (1 : Int32)))]) (st' := []) (S1 := zS c (zsi w30.2 (m0 + 3) w30.1.toNatClampNeg (if (0 : Int32) < ((w30.2.1 (m0 + 3) w30.1.toNatClampNeg) - x2) then ((w30.2.1 (m0 + 3) w30.1.toNatClampNeg) - x2) else (0 : Int32)))) rfl ?_
    obtain rfl := Option.some.inj h
    exact zr_wk [some (.ref m0), none, some (.int x2), some (.int (w30.1 + (1 : Int32)))] ⟨rfl, rfl, rfl, trivial⟩ (hn ((w30.1 + (1 : Int32)), (zsi w30.2 (m0 + 3) w30.1.toNatClampNeg (if (0 : Int32) < ((w30.2.1 (m0 + 3) w30.1.toNatClampNeg) - x2) then ((w30.2.1 (m0 + 3) w30.1.toNatClampNeg) - x2) else (0 : Int32)))) rfl)
def fX3_letGoBy (n : Nat) (s : zs) (m0 : Nat) (x1 : Int32) : Option zs := zp (zl (fX3_letGoBy_B30 n m0 ((((s.1 m0 2) + x1) / (10 : Int32)) - ((s.1 m0 2) / (10 : Int32)))) n ((0 : Int32), (zsi s m0 2 ((s.1 m0 2) + x1)))) (fun w4 => some w4)
theorem tX3_letGoBy {n : Nat} {c : Nat × Nat} {s : zs} {m0 : Nat} {x1 : Int32} {s' : zs} (hm0 : zM m0) (h : fX3_letGoBy n s m0 x1 = some s') : zc 1 605 [.ref m0, .int x1] (zS c s) none (zS c s') := by
  refine zc_of (k := kX3_letGoBy) (rt := 0) (L := [some (.ref m0), some (.int x1), none, none]) zm_605.1 rfl rfl (by decide) rfl rfl ?_
  unfold fX3_letGoBy at h
  refine zr_many 1 (pc' := 1) (L' := [some (.ref m0), some (.int x1), none, none]) (st' := [.ref m0]) (S1 := zS c s) rfl ?_
  refine zq_get rfl (zhM_0 hm0 _) (zM_lt (j := 0) hm0 (by decide)) rfl rfl ?_
  refine zr_many 3 (pc' := 8) (L' := [some (.ref m0), some (.int x1), none, none]) (st' := [.int (10 : Int32), .int ((s.1 m0 2) + x1)]) (S1 := zS c s) rfl ?_
  refine zq_idiv rfl (by decide) rfl ?_
  refine zr_many 1 (pc' := 10) (L' := [some (.ref m0), some (.int x1), none, none]) (st' := [.ref m0, .int (((s.1 m0 2) + x1) / (10 : Int32))]) (S1 := zS c s) rfl ?_
  refine zq_get rfl (zhM_0 hm0 _) (zM_lt (j := 0) hm0 (by decide)) rfl rfl ?_
  refine zr_many 1 (pc' := 15) (L' := [some (.ref m0), some (.int x1), none, none]) (st' := [.int (10 : Int32), .int (s.1 m0 2), .int (((s.1 m0 2) + x1) / (10 : Int32))]) (S1 := zS c s) rfl ?_
  refine zq_idiv rfl (by decide) rfl ?_
  refine zr_many 4 (pc' := 20) (L' := [some (.ref m0), some (.int x1), some (.int ((((s.1 m0 2) + x1) / (10 : Int32)) - ((s.1 m0 2) / (10 : Int32)))), none]) (st' := [.ref m0, .ref m0]) (S1 := zS c s) rfl ?_
  refine zq_get rfl (zhM_0 hm0 _) (zM_lt (j := 0) hm0 (by decide)) rfl rfl ?_
  refine zr_many 2 (pc' := 25) (L' := [some (.ref m0), some (.int x1), some (.int ((((s.1 m0 2) + x1) / (10 : Int32)) - ((s.1 m0 2) / (10 : Int32)))), none]) (st' := [.int ((s.1 m0 2) + x1), .ref m0]) (S1 := zS c s) rfl ?_
  refine zq_putM rfl hm0 (by decide) rfl ?_
  refine zr_many 2 (pc' := 30) (L' := [some (.ref m0), some (.int x1), some (.int ((((s.1 m0 2) + x1) / (10 : Int32)) - ((s.1 m0 2) / (10 : Int32)))), some (.int (0 : Int32))]) (st' := []) (S1 := zS c (zsi s m0 2 ((s.1 m0 2) + x1))) rfl ?_
  obtain ⟨w4, g5, h⟩ := zp_inv h
  refine zr_wk [some (.ref m0), none, some (.int ((((s.1 m0 2) + x1) / (10 : Int32)) - ((s.1 m0 2) / (10 : Int32)))), some (.int (0 : Int32))] ⟨rfl, rfl, rfl, trivial⟩ (zl_cert (Z := fun w30 => zr kX3_letGoBy 0 0 30 [some (.ref m0), none, some (.int ((((s.1 m0 2) + x1) / (10 : Int32)) - ((s.1 m0 2) / (10 : Int32)))), some (.int w30.1)] [] (zS c w30.2) _ _) (Y := (fun z => zr kX3_letGoBy 0 0 60 [none, none, none, none] [] (zS c z) _ _)) (fun w o h1 h2 h3 => tX3_letGoBy_B30 hm0 h1 h2 h3) n _ _ g5 ?_)
  show zr kX3_letGoBy 0 0 60 [none, none, none, none] [] (zS c w4) _ _
  obtain rfl := Option.some.inj h
  exact zq_vret rfl
def fX4_size (n : Nat) (s : zs) : Option Int32 := some (s.1 43 4)
theorem tX4_size {n : Nat} {c : Nat × Nat} {s : zs} {r : Int32} (h : fX4_size n s = some r) : zc 1 801 [.ref 43] (zS c s) (some (.int r)) (zS c s) := by
  refine zc_of (k := kX4_size) (rt := 1) (L := [some (.ref 43)]) zm_801.1 rfl rfl (by decide) rfl rfl ?_
  unfold fX4_size at h
  refine zr_many 1 (pc' := 1) (L' := [some (.ref 43)]) (st' := [.ref 43]) (S1 := zS c s) rfl ?_
  refine zq_get rfl (zh_43 _) rfl rfl rfl ?_
  obtain rfl := Option.some.inj h
  exact zq_iret rfl
def fX4_clear (n : Nat) (s : zs) : Option zs := zt (zsi s 43 4 (0 : Int32)) (fun s1 => zt (zsi s1 43 2 (0 : Int32)) (fun s3 => some (zsi s3 43 3 (0 : Int32))))
theorem tX4_clear {n : Nat} {c : Nat × Nat} {s : zs} {s' : zs} (h : fX4_clear n s = some s') : zc 1 802 [.ref 43] (zS c s) none (zS c s') := by
  refine zc_of (k := kX4_clear) (rt := 0) (L := [some (.ref 43)]) zm_802.1 rfl rfl (by decide) rfl rfl ?_
  unfold fX4_clear at h
  refine zr_many 2 (pc' := 2) (L' := [some (.ref 43)]) (st' := [.int (0 : Int32), .ref 43]) (S1 := zS c s) rfl ?_
  refine zq_put (s' := (zsi s 43 4 (0 : Int32))) rfl (zh_43 _) rfl rfl rfl rfl zsi_ne rfl ?_
  refine zr_many 2 (pc' := 7) (L' := [some (.ref 43)]) (st' := [.int (0 : Int32), .ref 43]) (S1 := zS c (zsi s 43 4 (0 : Int32))) rfl ?_
  obtain ⟨s1, e2, h⟩ := zt_in h
  rw [← e2]
  refine zq_put (s' := (zsi s1 43 2 (0 : Int32))) rfl (zh_43 _) rfl rfl rfl rfl zsi_ne rfl ?_
  refine zr_many 2 (pc' := 12) (L' := [some (.ref 43)]) (st' := [.int (0 : Int32), .ref 43]) (S1 := zS c (zsi s1 43 2 (0 : Int32))) rfl ?_
  obtain ⟨s3, e4, h⟩ := zt_in h
  rw [← e4]
  refine zq_put (s' := (zsi s3 43 3 (0 : Int32))) rfl (zh_43 _) rfl rfl rfl rfl zsi_ne rfl ?_
  obtain rfl := Option.some.inj h
  exact zq_vret rfl
def fX4_note_J53 (n : Nat) (s : zs) : Option (Int32 × zs) := some ((1 : Int32), s)
theorem tX4_note_J53 {n : Nat} {c : Nat × Nat} {s : zs} {r : Int32} {s' : zs} (h : fX4_note_J53 n s = some (r, s')) : zr kX4_note 2 0 53 [none, none, none] [] (zS c s) (some (.int r)) (zS c s') := by
  unfold fX4_note_J53 at h
  refine zr_many 1 (pc' := 54) (L' := [none, none, none]) (st' := [.int (1 : Int32)]) (S1 := zS c s) rfl ?_
  obtain ⟨rfl, rfl⟩ := Prod.mk.inj (Option.some.inj h)
  exact zq_zret rfl (by decide)
def fX4_note (n : Nat) (s : zs) (x1 : Int32) (x2 : Int32) : Option (Int32 × zs) := if (s.1 43 4) < (12 : Int32) then if ¬ x2 = (1 : Int32) then zt (zsi s 43 4 ((s.1 43 4) + (1 : Int32))) (fun s3 => fX4_note_J53 n (zsi s3 43 3 ((s3.1 43 3) ||| ((1 : Int32) <<< (x1 &&& 31))))) else zt (zsi s 43 4 ((s.1 43 4) + (1 : Int32))) (fun s5 => fX4_note_J53 n (zsi s5 43 2 ((s5.1 43 2) ||| ((1 : Int32) <<< (x1 &&& 31))))) else some ((0 : Int32), s)
theorem tX4_note {n : Nat} {c : Nat × Nat} {s : zs} {x1 : Int32} {x2 : Int32} {r : Int32} {s' : zs} (h : fX4_note n s x1 x2 = some (r, s')) : zc 1 803 [.ref 43, .int x1, .int x2] (zS c s) (some (.int r)) (zS c s') := by
  refine zc_of (k := kX4_note) (rt := 2) (L := [some (.ref 43), some (.int x1), some (.int x2)]) zm_803.1 rfl rfl (by decide) rfl rfl ?_
  unfold fX4_note at h
  refine zr_many 1 (pc' := 1) (L' := [some (.ref 43), some (.int x1), some (.int x2)]) (st' := [.ref 43]) (S1 := zS c s) rfl ?_
  refine zq_get rfl (zh_43 _) rfl rfl rfl ?_
  refine zr_many 1 (pc' := 6) (L' := [some (.ref 43), some (.int x1), some (.int x2)]) (st' := [.int (12 : Int32), .int (s.1 43 4)]) (S1 := zS c s) rfl ?_
  refine zq_if2 (b := (s.1 43 4) < (12 : Int32)) rfl Iff.rfl rfl (fun g1 => ?_) (fun g1 => ?_)
  · rw [if_pos g1] at h
    refine zr_many 2 (pc' := 13) (L' := [some (.ref 43), some (.int x1), some (.int x2)]) (st' := [.ref 43, .ref 43]) (S1 := zS c s) rfl ?_
    refine zq_get rfl (zh_43 _) rfl rfl rfl ?_
    refine zr_many 2 (pc' := 18) (L' := [some (.ref 43), some (.int x1), some (.int x2)]) (st' := [.int ((s.1 43 4) + (1 : Int32)), .ref 43]) (S1 := zS c s) rfl ?_
    refine zq_put (s' := (zsi s 43 4 ((s.1 43 4) + (1 : Int32)))) rfl (zh_43 _) rfl rfl rfl rfl zsi_ne rfl ?_
    refine zr_many 2 (pc' := 23) (L' := [some (.ref 43), some (.int x1), some (.int x2)]) (st' := [.int (1 : Int32), .int x2]) (S1 := zS c (zsi s 43 4 ((s.1 43 4) + (1 : Int32)))) rfl ?_
    refine zq_if2 (b := ¬ x2 = (1 : Int32)) rfl Iff.rfl rfl (fun g2 => ?_) (fun g2 => ?_)
    · rw [if_pos g2] at h
      refine zr_many 2 (pc' := 43) (L' := [some (.ref 43), some (.int x1), some (.int x2)]) (st' := [.ref 43, .ref 43]) (S1 := zS c (zsi s 43 4 ((s.1 43 4) + (1 : Int32)))) rfl ?_
      refine zq_get rfl (zh_43 _) rfl rfl rfl ?_
      refine zr_many 4 (pc' := 50) (L' := [some (.ref 43), some (.int x1), some (.int x2)]) (st' := [.int (((zsi s 43 4 ((s.1 43 4) + (1 : Int32))).1 43 3) ||| ((1 : Int32) <<< (x1 &&& 31))), .ref 43]) (S1 := zS c (zsi s 43 4 ((s.1 43 4) + (1 : Int32)))) rfl ?_
      obtain ⟨s3, e4, h⟩ := zt_in h
      rw [← e4]
      refine zq_put (s' := (zsi s3 43 3 ((s3.1 43 3) ||| ((1 : Int32) <<< (x1 &&& 31))))) rfl (zh_43 _) rfl rfl rfl rfl zsi_ne rfl ?_
      exact zr_wk [none, none, none] trivial (tX4_note_J53 h)
    · rw [if_neg g2] at h
      refine zr_many 2 (pc' := 28) (L' := [some (.ref 43), some (.int x1), some (.int x2)]) (st' := [.ref 43, .ref 43]) (S1 := zS c (zsi s 43 4 ((s.1 43 4) + (1 : Int32)))) rfl ?_
      refine zq_get rfl (zh_43 _) rfl rfl rfl ?_
      refine zr_many 4 (pc' := 35) (L' := [some (.ref 43), some (.int x1), some (.int x2)]) (st' := [.int (((zsi s 43 4 ((s.1 43 4) + (1 : Int32))).1 43 2) ||| ((1 : Int32) <<< (x1 &&& 31))), .ref 43]) (S1 := zS c (zsi s 43 4 ((s.1 43 4) + (1 : Int32)))) rfl ?_
      obtain ⟨s5, e6, h⟩ := zt_in h
      rw [← e6]
      refine zq_put (s' := (zsi s5 43 2 ((s5.1 43 2) ||| ((1 : Int32) <<< (x1 &&& 31))))) rfl (zh_43 _) rfl rfl rfl rfl zsi_ne rfl ?_
      refine zr_many 1 (pc' := 53) (L' := [some (.ref 43), some (.int x1), some (.int x2)]) (st' := []) (S1 := zS c (zsi s5 43 2 ((s5.1 43 2) ||| ((1 : Int32) <<< (x1 &&& 31))))) rfl ?_
      exact zr_wk [none, none, none] trivial (tX4_note_J53 h)
  · rw [if_neg g1] at h
    refine zr_many 1 (pc' := 10) (L' := [some (.ref 43), some (.int x1), some (.int x2)]) (st' := [.int (0 : Int32)]) (S1 := zS c s) rfl ?_
    obtain ⟨rfl, rfl⟩ := Prod.mk.inj (Option.some.inj h)
    exact zq_zret rfl (by decide)
def fX4_hasInRange_J31 (n : Nat) (s : zs) (y0 : Int32) : Option Int32 := if y0 = 0 ∨ y0 = 1 then some y0 else none
theorem tX4_hasInRange_J31 {n : Nat} {c : Nat × Nat} {s : zs} {y0 : Int32} {r : Int32} (h : fX4_hasInRange_J31 n s y0 = some r) : zr kX4_hasInRange 2 0 31 [none, none, none] [.int y0] (zS c s) (some (.int r)) (zS c s) := by
  unfold fX4_hasInRange_J31 at h
  obtain ⟨gz, h⟩ := zt_inv h
  obtain rfl := Option.some.inj h
  exact zq_zret rfl gz
def fX4_hasInRange_J30 (n : Nat) (s : zs) : Option Int32 := fX4_hasInRange_J31 n s (0 : Int32)
theorem tX4_hasInRange_J30 {n : Nat} {c : Nat × Nat} {s : zs} {r : Int32} (h : fX4_hasInRange_J30 n s = some r) : zr kX4_hasInRange 2 0 30 [none, none, none] [] (zS c s) (some (.int r)) (zS c s) := by
  unfold fX4_hasInRange_J30 at h
  refine zr_many 1 (pc' := 31) (L' := [none, none, none]) (st' := [.int (0 : Int32)]) (S1 := zS c s) rfl ?_
  exact zr_wk [none, none, none] trivial (tX4_hasInRange_J31 h)
def fX4_hasInRange (n : Nat) (s : zs) (x1 : Int32) (x2 : Int32) : Option Int32 := cond (zi_in x1 8) (if x2 < (s.1 13 x1.toNatClampNeg) then fX4_hasInRange_J30 n s else cond (zi_in x1 8) (if (s.1 14 x1.toNatClampNeg) < x2 then fX4_hasInRange_J30 n s else fX4_hasInRange_J31 n s (1 : Int32)) none) none
theorem tX4_hasInRange {n : Nat} {c : Nat × Nat} {s : zs} {x1 : Int32} {x2 : Int32} {r : Int32} (h : fX4_hasInRange n s x1 x2 = some r) : zc 1 804 [.ref 43, .int x1, .int x2] (zS c s) (some (.int r)) (zS c s) := by
  refine zc_of (k := kX4_hasInRange) (rt := 2) (L := [some (.ref 43), some (.int x1), some (.int x2)]) zm_804.1 rfl rfl (by decide) rfl rfl ?_
  unfold fX4_hasInRange at h
  refine zr_many 1 (pc' := 1) (L' := [some (.ref 43), some (.int x1), some (.int x2)]) (st' := [.ref 43]) (S1 := zS c s) rfl ?_
  refine zq_get rfl (zh_43 _) rfl rfl rfl ?_
  refine zq_get rfl (zh_5 _) rfl rfl rfl ?_
  refine zr_many 1 (pc' := 8) (L' := [some (.ref 43), some (.int x1), some (.int x2)]) (st' := [.int x1, .ref 13]) (S1 := zS c s) rfl ?_
  obtain ⟨g1, h⟩ := zi_cond_inv h
  refine zq_ild rfl (zh_13 _) rfl g1 rfl ?_
  refine zr_many 1 (pc' := 10) (L' := [some (.ref 43), some (.int x1), some (.int x2)]) (st' := [.int x2, .int (s.1 13 x1.toNatClampNeg)]) (S1 := zS c s) rfl ?_
  refine zq_if2 (b := x2 < (s.1 13 x1.toNatClampNeg)) rfl Iff.rfl rfl (fun g2 => ?_) (fun g2 => ?_)
  · rw [if_pos g2] at h
    exact zr_wk [none, none, none] trivial (tX4_hasInRange_J30 h)
  · rw [if_neg g2] at h
    refine zr_many 2 (pc' := 15) (L' := [some (.ref 43), some (.int x1), some (.int x2)]) (st' := [.ref 43, .int x2]) (S1 := zS c s) rfl ?_
    refine zq_get rfl (zh_43 _) rfl rfl rfl ?_
    refine zq_get rfl (zh_5 _) rfl rfl rfl ?_
    refine zr_many 1 (pc' := 22) (L' := [some (.ref 43), some (.int x1), some (.int x2)]) (st' := [.int x1, .ref 14, .int x2]) (S1 := zS c s) rfl ?_
    obtain ⟨g3, h⟩ := zi_cond_inv h
    refine zq_ild rfl (zh_14 _) rfl g3 rfl ?_
    refine zq_if2 (b := (s.1 14 x1.toNatClampNeg) < x2) rfl Iff.rfl rfl (fun g4 => ?_) (fun g4 => ?_)
    · rw [if_pos g4] at h
      exact zr_wk [none, none, none] trivial (tX4_hasInRange_J30 h)
    · rw [if_neg g4] at h
      refine zr_many 2 (pc' := 31) (L' := [some (.ref 43), some (.int x1), some (.int x2)]) (st' := [.int (1 : Int32)]) (S1 := zS c s) rfl ?_
      exact zr_wk [none, none, none] trivial (tX4_hasInRange_J31 h)
def fX4_fitting_J81 (n : Nat) (s : zs) (x2 : Int32) (y0 : Int32) (y1 : Int32) : Option ((Int32 × Int32) ⊕ (Int32)) := some (Sum.inl ((y0 ||| y1), (x2 + (1 : Int32))))
theorem tX4_fitting_J81 {n : Nat} {c : Nat × Nat} {s : zs} {x2 : Int32} {y0 : Int32} {y1 : Int32} {o : _} {v : Option Value} {S' : zi_S} (h : fX4_fitting_J81 n s x2 y0 y1 = some o) (hn : ∀ w4, o = Sum.inl w4 → zr kX4_fitting 1 0 4 [some (.ref 43), some (.int w4.1), some (.int w4.2), none, none] [] (zS c s) v S') (hx : ∀ z, o = Sum.inr z → (fun z => zr kX4_fitting 1 0 89 [none, some (.int z), none, none, none] [] (zS c s) v S') z) : zr kX4_fitting 1 0 81 [some (.ref 43), none, some (.int x2), none, none] [.int y1, .int y0] (zS c s) v S' := by
  unfold fX4_fitting_J81 at h
  refine zr_many 4 (pc' := 4) (L' := [some (.ref 43), some (.int (y0 ||| y1)), some (.int (x2 + (1 : Int32))), none, none]) (st' := []) (S1 := zS c s) rfl ?_
  obtain rfl := Option.some.inj h
  exact zr_wk [some (.ref 43), some (.int (y0 ||| y1)), some (.int (x2 + (1 : Int32))), none, none] ⟨rfl, rfl, rfl, trivial⟩ (hn ((y0 ||| y1), (x2 + (1 : Int32))) rfl)
def fX4_fitting_J66 (n : Nat) (s : zs) (x1 : Int32) (x2 : Int32) (y0 : Int32) : Option ((Int32 × Int32) ⊕ (Int32)) := if y0 = 0 then fX4_fitting_J81 n s x2 x1 (0 : Int32) else fX4_fitting_J81 n s x2 x1 ((1 : Int32) <<< (x2 &&& 31))
theorem tX4_fitting_J66 {n : Nat} {c : Nat × Nat} {s : zs} {x1 : Int32} {x2 : Int32} {y0 : Int32} {o : _} {v : Option Value} {S' : zi_S} (h : fX4_fitting_J66 n s x1 x2 y0 = some o) (hn : ∀ w4, o = Sum.inl w4 → zr kX4_fitting 1 0 4 [some (.ref 43), some (.int w4.1), some (.int w4.2), none, none] [] (zS c s) v S') (hx : ∀ z, o = Sum.inr z → (fun z => zr kX4_fitting 1 0 89 [none, some (.int z), none, none, none] [] (zS c s) v S') z) : zr kX4_fitting 1 0 66 [some (.ref 43), some (.int x1), some (.int x2), none, none] [.int y0] (zS c s) v S' := by
  unfold fX4_fitting_J66 at h
  refine zr_many 3 (pc' := 71) (L' := [some (.ref 43), some (.int x1), some (.int x2), none, some (.int y0)]) (st' := [.int y0, .int x1]) (S1 := zS c s) rfl ?_
  refine zq_if1 (b := y0 = 0) rfl Iff.rfl rfl (fun g5 => ?_) (fun g5 => ?_)
  · rw [if_pos g5] at h
    refine zr_many 1 (pc' := 81) (L' := [some (.ref 43), some (.int x1), some (.int x2), none, some (.int y0)]) (st' := [.int (0 : Int32), .int x1]) (S1 := zS c s) rfl ?_
    exact zr_wk [some (.ref 43), none, some (.int x2), none, none] ⟨rfl, rfl, trivial⟩ (tX4_fitting_J81 h hn hx)
  · rw [if_neg g5] at h
    refine zr_many 4 (pc' := 81) (L' := [some (.ref 43), some (.int x1), some (.int x2), none, some (.int y0)]) (st' := [.int ((1 : Int32) <<< (x2 &&& 31)), .int x1]) (S1 := zS c s) rfl ?_
    exact zr_wk [some (.ref 43), none, some (.int x2), none, none] ⟨rfl, rfl, trivial⟩ (tX4_fitting_J81 h hn hx)
def fX4_fitting_J65 (n : Nat) (s : zs) (x1 : Int32) (x2 : Int32) : Option ((Int32 × Int32) ⊕ (Int32)) := fX4_fitting_J66 n s x1 x2 (0 : Int32)
theorem tX4_fitting_J65 {n : Nat} {c : Nat × Nat} {s : zs} {x1 : Int32} {x2 : Int32} {o : _} {v : Option Value} {S' : zi_S} (h : fX4_fitting_J65 n s x1 x2 = some o) (hn : ∀ w4, o = Sum.inl w4 → zr kX4_fitting 1 0 4 [some (.ref 43), some (.int w4.1), some (.int w4.2), none, none] [] (zS c s) v S') (hx : ∀ z, o = Sum.inr z → (fun z => zr kX4_fitting 1 0 89 [none, some (.int z), none, none, none] [] (zS c s) v S') z) : zr kX4_fitting 1 0 65 [some (.ref 43), some (.int x1), some (.int x2), none, none] [] (zS c s) v S' := by
  unfold fX4_fitting_J65 at h
  refine zr_many 1 (pc' := 66) (L' := [some (.ref 43), some (.int x1), some (.int x2), none, none]) (st' := [.int (0 : Int32)]) (S1 := zS c s) rfl ?_
  exact zr_wk [some (.ref 43), some (.int x1), some (.int x2), none, none] ⟨rfl, rfl, rfl, trivial⟩ (tX4_fitting_J66 h hn hx)
def fX4_fitting_B4 (n : Nat) (s : zs) (w4 : Int32 × Int32) : Option ((Int32 × Int32) ⊕ (Int32)) := if (s.1 5 8) ≤ w4.2 then some (Sum.inr w4.1) else cond (zi_in w4.2 8) (cond (zi_in w4.2 8) (if ¬ ((s.1 43 2) &&& ((((1 : Int32) <<< (((s.1 14 w4.2.toNatClampNeg) + (1 : Int32)) &&& 31)) - ((1 : Int32) <<< ((s.1 13 w4.2.toNatClampNeg) &&& 31))) ^^^ (-1 : Int32))) = 0 then fX4_fitting_J65 n s w4.1 w4.2 else if ¬ ((s.1 43 3) &&& (((1 : Int32) <<< (((s.1 14 w4.2.toNatClampNeg) + (1 : Int32)) &&& 31)) - ((1 : Int32) <<< ((s.1 13 w4.2.toNatClampNeg) &&& 31)))) = 0 then fX4_fitting_J65 n s w4.1 w4.2 else fX4_fitting_J66 n s w4.1 w4.2 (1 : Int32)) none) none
theorem tX4_fitting_B4 {n : Nat} {c : Nat × Nat} {s : zs} {w4 : Int32 × Int32} {o : _} {v : Option Value} {S' : zi_S} (h : fX4_fitting_B4 n s w4 = some o) (hn : ∀ w4, o = Sum.inl w4 → zr kX4_fitting 1 0 4 [some (.ref 43), some (.int w4.1), some (.int w4.2), none, none] [] (zS c s) v S') (hx : ∀ z, o = Sum.inr z → (fun z => zr kX4_fitting 1 0 89 [none, some (.int z), none, none, none] [] (zS c s) v S') z) : zr kX4_fitting 1 0 4 [some (.ref 43), some (.int w4.1), some (.int w4.2), none, none] [] (zS c s) v S' := by
  unfold fX4_fitting_B4 at h
  refine zr_many 2 (pc' := 6) (L' := [some (.ref 43), some (.int w4.1), some (.int w4.2), none, none]) (st' := [.ref 43, .int w4.2]) (S1 := zS c s) rfl ?_
  refine zq_get rfl (zh_43 _) rfl rfl rfl ?_
  refine zq_get rfl (zh_5 _) rfl rfl rfl ?_
  refine zq_if2 (b := (s.1 5 8) ≤ w4.2) rfl Iff.rfl rfl (fun g1 => ?_) (fun g1 => ?_)
  · rw [if_pos g1] at h
    obtain rfl := Option.some.inj h
    exact zr_wk [none, some (.int w4.1), none, none, none] ⟨rfl, trivial⟩ (hx w4.1 rfl)
  · rw [if_neg g1] at h
    refine zr_many 2 (pc' := 17) (L' := [some (.ref 43), some (.int w4.1), some (.int w4.2), none, none]) (st' := [.ref 43, .int (1 : Int32)]) (S1 := zS c s) rfl ?_
    refine zq_get rfl (zh_43 _) rfl rfl rfl ?_
    refine zq_get rfl (zh_5 _) rfl rfl rfl ?_
    refine zr_many 1 (pc' := 24) (L' := [some (.ref 43), some (.int w4.1), some (.int w4.2), none, none]) (st' := [.int w4.2, .ref 14, .int (1 : Int32)]) (S1 := zS c s) rfl ?_
    obtain ⟨g2, h⟩ := zi_cond_inv h
    refine zq_ild rfl (zh_14 _) rfl g2 rfl ?_
    refine zr_many 5 (pc' := 30) (L' := [some (.ref 43), some (.int w4.1), some (.int w4.2), none, none]) (st' := [.ref 43, .int (1 : Int32), .int ((1 : Int32) <<< (((s.1 14 w4.2.toNatClampNeg) + (1 : Int32)) &&& 31))]) (S1 := zS c s) rfl ?_
    refine zq_get rfl (zh_43 _) rfl rfl rfl ?_
    refine zq_get rfl (zh_5 _) rfl rfl rfl ?_
    refine zr_many 1 (pc' := 37) (L' := [some (.ref 43), some (.int w4.1), some (.int w4.2), none, none]) (st' := [.int w4.2, .ref 13, .int (1 : Int32), .int ((1 : Int32) <<< (((s.1 14 w4.2.toNatClampNeg) + (1 : Int32)) &&& 31))]) (S1 := zS c s) rfl ?_
    obtain ⟨g3, h⟩ := zi_cond_inv h
    refine zq_ild rfl (zh_13 _) rfl g3 rfl ?_
    refine zr_many 4 (pc' := 42) (L' := [some (.ref 43), some (.int w4.1), some (.int w4.2), some (.int (((1 : Int32) <<< (((s.1 14 w4.2.toNatClampNeg) + (1 : Int32)) &&& 31)) - ((1 : Int32) <<< ((s.1 13 w4.2.toNatClampNeg) &&& 31)))), none]) (st' := [.ref 43]) (S1 := zS c s) rfl ?_
    refine zq_get rfl (zh_43 _) rfl rfl rfl ?_
    refine zr_many 4 (pc' := 49) (L' := [some (.ref 43), some (.int w4.1), some (.int w4.2), some (.int (((1 : Int32) <<< (((s.1 14 w4.2.toNatClampNeg) + (1 : Int32)) &&& 31)) - ((1 : Int32) <<< ((s.1 13 w4.2.toNatClampNeg) &&& 31)))), none]) (st' := [.int ((s.1 43 2) &&& ((((1 : Int32) <<< (((s.1 14 w4.2.toNatClampNeg) + (1 : Int32)) &&& 31)) - ((1 : Int32) <<< ((s.1 13 w4.2.toNatClampNeg) &&& 31))) ^^^ (-1 : Int32)))]) (S1 := zS c s) rfl ?_
    refine zq_if1 (b := ¬ ((s.1 43 2) &&& ((((1 : Int32) <<< (((s.1 14 w4.2.toNatClampNeg) + (1 : Int32)) &&& 31)) - ((1 : Int32) <<< ((s.1 13 w4.2.toNatClampNeg) &&& 31))) ^^^ (-1 : Int32))) = 0) rfl Iff.rfl rfl (fun g4 => ?_) (fun g4 => ?_)
    · rw [if_pos g4] at h
      exact zr_wk [some (.ref 43), some (.int w4.1), some (.int w4.2), none, none] ⟨rfl, rfl, rfl, trivial⟩ (tX4_fitting_J65 h hn hx)
    · rw [if_neg g4] at h
      refine zr_many 1 (pc' := 53) (L' := [some (.ref 43), some (.int w4.1), some (.int w4.2), some (.int (((1 : Int32) <<< (((s.1 14 w4.2.toNatClampNeg) + (1 : Int32)) &&& 31)) - ((1 : Int32) <<< ((s.1 13 w4.2.toNatClampNeg) &&& 31)))), none]) (st' := [.ref 43]) (S1 := zS c s) rfl ?_
      refine zq_get rfl (zh_43 _) rfl rfl rfl ?_
      refine zr_many 2 (pc' := 58) (L' := [some (.ref 43), some (.int w4.1), some (.int w4.2), some (.int (((1 : Int32) <<< (((s.1 14 w4.2.toNatClampNeg) + (1 : Int32)) &&& 31)) - ((1 : Int32) <<< ((s.1 13 w4.2.toNatClampNeg) &&& 31)))), none]) (st' := [.int ((s.1 43 3) &&& (((1 : Int32) <<< (((s.1 14 w4.2.toNatClampNeg) + (1 : Int32)) &&& 31)) - ((1 : Int32) <<< ((s.1 13 w4.2.toNatClampNeg) &&& 31))))]) (S1 := zS c s) rfl ?_
      refine zq_if1 (b := ¬ ((s.1 43 3) &&& (((1 : Int32) <<< (((s.1 14 w4.2.toNatClampNeg) + (1 : Int32)) &&& 31)) - ((1 : Int32) <<< ((s.1 13 w4.2.toNatClampNeg) &&& 31)))) = 0) rfl Iff.rfl rfl (fun g6 => ?_) (fun g6 => ?_)
      · rw [if_pos g6] at h
        exact zr_wk [some (.ref 43), some (.int w4.1), some (.int w4.2), none, none] ⟨rfl, rfl, rfl, trivial⟩ (tX4_fitting_J65 h hn hx)
      · rw [if_neg g6] at h
        refine zr_many 2 (pc' := 66) (L' := [some (.ref 43), some (.int w4.1), some (.int w4.2), some (.int (((1 : Int32) <<< (((s.1 14 w4.2.toNatClampNeg) + (1 : Int32)) &&& 31)) - ((1 : Int32) <<< ((s.1 13 w4.2.toNatClampNeg) &&& 31)))), none]) (st' := [.int (1 : Int32)]) (S1 := zS c s) rfl ?_
        exact zr_wk [some (.ref 43), some (.int w4.1), some (.int w4.2), none, none] ⟨rfl, rfl, rfl, trivial⟩ (tX4_fitting_J66 h hn hx)
def fX4_fitting (n : Nat) (s : zs) : Option Int32 := zp (zl (fX4_fitting_B4 n s) n ((0 : Int32), (0 : Int32))) (fun w7 => some w7)
theorem tX4_fitting {n : Nat} {c : Nat × Nat} {s : zs} {r : Int32} (h : fX4_fitting n s = some r) : zc 1 805 [.ref 43] (zS c s) (some (.int r)) (zS c s) := by
  refine zc_of (k := kX4_fitting) (rt := 1) (L := [some (.ref 43), none, none, none, none]) zm_805.1 rfl rfl (by decide) rfl rfl ?_
  unfold fX4_fitting at h
  refine zr_many 4 (pc' := 4) (L' := [some (.ref 43), some (.int (0 : Int32)), some (.int (0 : Int32)), none, none]) (st' := []) (S1 := zS c s) rfl ?_
  obtain ⟨w7, g8, h⟩ := zp_inv h
  refine zr_wk [some (.ref 43), some (.int (0 : Int32)), some (.int (0 : Int32)), none, none] ⟨rfl, rfl, rfl, trivial⟩ (zl_cert (Z := fun w4 => zr kX4_fitting 1 0 4 [some (.ref 43), some (.int w4.1), some (.int w4.2), none, none] [] (zS c s) _ _) (Y := (fun z => zr kX4_fitting 1 0 89 [none, some (.int z), none, none, none] [] (zS c s) _ _)) (fun w o h1 h2 h3 => tX4_fitting_B4 h1 h2 h3) n _ _ g8 ?_)
  show zr kX4_fitting 1 0 89 [none, some (.int w7), none, none, none] [] (zS c s) _ _
  refine zr_many 1 (pc' := 90) (L' := [none, some (.int w7), none, none, none]) (st' := [.int w7]) (S1 := zS c s) rfl ?_
  obtain rfl := Option.some.inj h
  exact zq_iret rfl
def fX4_leftAtMost_J53 (n : Nat) (s : zs) (x1 : Int32) (x2 : Int32) (x3 : Int32) (x4 : Int32) (x5 : Int32) : Option ((Int32 × Int32 × Int32) ⊕ (Int32 × Int32)) := some (Sum.inl (x3, x4, (x5 + (1 : Int32))))
theorem tX4_leftAtMost_J53 {n : Nat} {c : Nat × Nat} {s : zs} {x1 : Int32} {x2 : Int32} {x3 : Int32} {x4 : Int32} {x5 : Int32} {o : _} {v : Option Value} {S' : zi_S} (h : fX4_leftAtMost_J53 n s x1 x2 x3 x4 x5 = some o) (hn : ∀ w8, o = Sum.inl w8 → zr kX4_leftAtMost 1 1 8 [some (.ref 43), some (.int x1), some (.int x2), some (.int w8.1), some (.int w8.2.1), some (.int w8.2.2), none] [] (zS c s) v S') (hx : ∀ z, o = Sum.inr z → (fun z => zr kX4_leftAtMost 1 1 59 [none, none, none, some (.int z.1), some (.int z.2), none, none] [] (zS c s) v S') z) : zr kX4_leftAtMost 1 1 53 [some (.ref 43), some (.int x1), some (.int x2), some (.int x3), some (.int x4), some (.int x5), none] [] (zS c s) v S' := by
  unfold fX4_leftAtMost_J53 at h
  refine zr_many 2 (pc' := 8) (L' := [some (.ref 43), some (.int x1), some (.int x2), some (.int x3), some (.int x4), some (.int (x5 + (1 : Int32))), none]) (st' := []) (S1 := zS c s) rfl ?_
  obtain rfl := Option.some.inj h
  exact zr_wk [some (.ref 43), some (.int x1), some (.int x2), some (.int x3), some (.int x4), some (.int (x5 + (1 : Int32))), none] ⟨rfl, rfl, rfl, rfl, rfl, rfl, trivial⟩ (hn (x3, x4, (x5 + (1 : Int32))) rfl)
def fX4_leftAtMost_B8 (n : Nat) (s : zs) (x1 : Int32) (x2 : Int32) (w8 : Int32 × Int32 × Int32) : Option ((Int32 × Int32 × Int32) ⊕ (Int32 × Int32)) := if (s.1 5 8) ≤ w8.2.2 then some (Sum.inr (w8.1, w8.2.1)) else zp (fX4_hasInRange n s w8.2.2 x2) (fun r2 => if r2 = 0 then fX4_leftAtMost_J53 n s x1 x2 w8.1 (w8.2.1 + ((x1 >>> (w8.2.2 &&& 31)) &&& (1 : Int32))) w8.2.2 else fX4_leftAtMost_J53 n s x1 x2 (w8.1 + ((x1 >>> (w8.2.2 &&& 31)) &&& (1 : Int32))) w8.2.1 w8.2.2)
theorem tX4_leftAtMost_B8 {n : Nat} {c : Nat × Nat} {s : zs} {x1 : Int32} {x2 : Int32} {w8 : Int32 × Int32 × Int32} {o : _} {v : Option Value} {S' : zi_S} (h : fX4_leftAtMost_B8 n s x1 x2 w8 = some o) (hn : ∀ w8, o = Sum.inl w8 → zr kX4_leftAtMost 1 1 8 [some (.ref 43), some (.int x1), some (.int x2), some (.int w8.1), some (.int w8.2.1), some (.int w8.2.2), none] [] (zS c s) v S') (hx : ∀ z, o = Sum.inr z → (fun z => zr kX4_leftAtMost 1 1 59 [none, none, none, some (.int z.1), some (.int z.2), none, none] [] (zS c s) v S') z) : zr kX4_leftAtMost 1 1 8 [some (.ref 43), some (.int x1), some (.int x2), some (.int w8.1), some (.int w8.2.1), some (.int w8.2.2), none] [] (zS c s) v S' := by
  unfold fX4_leftAtMost_B8 at h
  refine zr_many 2 (pc' := 11) (L' := [some (.ref 43), some (.int x1), some (.int x2), some (.int w8.1), some (.int w8.2.1), some (.int w8.2.2), none]) (st' := [.ref 43, .int w8.2.2]) (S1 := zS c s) rfl ?_
  refine zq_get rfl (zh_43 _) rfl rfl rfl ?_
  refine zq_get rfl (zh_5 _) rfl rfl rfl ?_
  refine zq_if2 (b := (s.1 5 8) ≤ w8.2.2) rfl Iff.rfl rfl (fun g1 => ?_) (fun g1 => ?_)
  · rw [if_pos g1] at h
    obtain rfl := Option.some.inj h
    exact zr_wk [none, none, none, some (.int w8.1), some (.int w8.2.1), none, none] ⟨rfl, rfl, trivial⟩ (hx (w8.1, w8.2.1) rfl)
  · rw [if_neg g1] at h
    refine zr_many 9 (pc' := 32) (L' := [some (.ref 43), some (.int x1), some (.int x2), some (.int w8.1), some (.int w8.2.1), some (.int w8.2.2), some (.int ((x1 >>> (w8.2.2 &&& 31)) &&& (1 : Int32)))]) (st' := [.int x2, .int w8.2.2, .ref 43]) (S1 := zS c s) rfl ?_
    obtain ⟨r2, g4, h⟩ := zp_inv h
    refine zq_call1 rfl rfl (zh_43 _) rfl rfl rfl (tX4_hasInRange g4) rfl ?_
    refine zq_if1 (b := r2 = 0) rfl Iff.rfl rfl (fun g5 => ?_) (fun g5 => ?_)
    · rw [if_pos g5] at h
      refine zr_many 4 (pc' := 53) (L' := [some (.ref 43), some (.int x1), some (.int x2), some (.int w8.1), some (.int (w8.2.1 + ((x1 >>> (w8.2.2 &&& 31)) &&& (1 : Int32)))), some (.int w8.2.2), some (.int ((x1 >>> (w8.2.2 &&& 31)) &&& (1 : Int32)))]) (st' := []) (S1 := zS c s) rfl ?_
      exact zr_wk [some (.ref 43), some (.int x1), some (.int x2), some (.int w8.1), some (.int (w8.2.1 + ((x1 >>> (w8.2.2 &&& 31)) &&& (1 : Int32)))), some (.int w8.2.2), none] ⟨rfl, rfl, rfl, rfl, rfl, rfl, trivial⟩ (tX4_leftAtMost_J53 h hn hx)
    · rw [if_neg g5] at h
      refine zr_many 5 (pc' := 53) (L' := [some (.ref 43), some (.int x1), some (.int x2), some (.int (w8.1 + ((x1 >>> (w8.2.2 &&& 31)) &&& (1 : Int32)))), some (.int w8.2.1), some (.int w8.2.2), some (.int ((x1 >>> (w8.2.2 &&& 31)) &&& (1 : Int32)))]) (st' := []) (S1 := zS c s) rfl ?_
      exact zr_wk [some (.ref 43), some (.int x1), some (.int x2), some (.int (w8.1 + ((x1 >>> (w8.2.2 &&& 31)) &&& (1 : Int32)))), some (.int w8.2.1), some (.int w8.2.2), none] ⟨rfl, rfl, rfl, rfl, rfl, rfl, trivial⟩ (tX4_leftAtMost_J53 h hn hx)
def fX4_leftAtMost (n : Nat) (s : zs) (x1 : Int32) (x2 : Int32) : Option Int32 := zp (zl (fX4_leftAtMost_B8 n s x1 x2) n ((0 : Int32), (0 : Int32), (0 : Int32))) (fun w6 => some (if w6.1 < w6.2 then w6.2 else w6.1))
theorem tX4_leftAtMost {n : Nat} {c : Nat × Nat} {s : zs} {x1 : Int32} {x2 : Int32} {r : Int32} (h : fX4_leftAtMost n s x1 x2 = some r) : zc 2 806 [.ref 43, .int x1, .int x2] (zS c s) (some (.int r)) (zS c s) := by
  refine zc_of (k := kX4_leftAtMost) (rt := 1) (L := [some (.ref 43), some (.int x1), some (.int x2), none, none, none, none]) zm_806.1 rfl rfl (by decide) rfl rfl ?_
  unfold fX4_leftAtMost at h
  refine zr_many 6 (pc' := 8) (L' := [some (.ref 43), some (.int x1), some (.int x2), some (.int (0 : Int32)), some (.int (0 : Int32)), some (.int (0 : Int32)), none]) (st' := []) (S1 := zS c s) rfl ?_
  obtain ⟨w6, g7, h⟩ := zp_inv h
  refine zr_wk [some (.ref 43), some (.int x1), some (.int x2), some (.int (0 : Int32)), some (.int (0 : Int32)), some (.int (0 : Int32)), none] ⟨rfl, rfl, rfl, rfl, rfl, rfl, trivial⟩ (zl_cert (Z := fun w8 => zr kX4_leftAtMost 1 1 8 [some (.ref 43), some (.int x1), some (.int x2), some (.int w8.1), some (.int w8.2.1), some (.int w8.2.2), none] [] (zS c s) _ _) (Y := (fun z => zr kX4_leftAtMost 1 1 59 [none, none, none, some (.int z.1), some (.int z.2), none, none] [] (zS c s) _ _)) (fun w o h1 h2 h3 => tX4_leftAtMost_B8 h1 h2 h3) n _ _ g7 ?_)
  show zr kX4_leftAtMost 1 1 59 [none, none, none, some (.int w6.1), some (.int w6.2), none, none] [] (zS c s) _ _
  refine zr_many 3 (pc' := 65) (L' := [none, none, none, some (.int w6.1), some (.int w6.2), none, none]) (st' := [.int (if w6.1 < w6.2 then w6.2 else w6.1)]) (S1 := zS c s) rfl ?_
  obtain rfl := Option.some.inj h
  exact zq_iret rfl
def fX4_markPair_J38 (n : Nat) (s : zs) (x1 : Int32) (x2 : Int32) (x3 : Int32) (x4 : Int32) : Option ((Int32 × zs) ⊕ (zs)) := some (Sum.inl ((x4 + (1 : Int32)), s))
theorem tX4_markPair_J38 {n : Nat} {c : Nat × Nat} {s : zs} {x1 : Int32} {x2 : Int32} {x3 : Int32} {x4 : Int32} {o : _} {v : Option Value} {S' : zi_S} (h : fX4_markPair_J38 n s x1 x2 x3 x4 = some o) (hn : ∀ w3, o = Sum.inl w3 → zr kX4_markPair 0 1 3 [some (.ref 43), some (.int x1), some (.int x2), some (.int x3), some (.int w3.1)] [] (zS c w3.2) v S') (hx : ∀ z, o = Sum.inr z → (fun z => zr kX4_markPair 0 1 44 [none, none, none, none, none] [] (zS c z) v S') z) : zr kX4_markPair 0 1 38 [some (.ref 43), some (.int x1), some (.int x2), some (.int x3), some (.int x4)] [] (zS c s) v S' := by
  unfold fX4_markPair_J38 at h
  refine zr_many 2 (pc' := 3) (L' := [some (.ref 43), some (.int x1), some (.int x2), some (.int x3), some (.int (x4 + (1 : Int32)))]) (st' := []) (S1 := zS c s) rfl ?_
  obtain rfl := Option.some.inj h
  exact zr_wk [some (.ref 43), some (.int x1), some (.int x2), some (.int x3), some (.int (x4 + (1 : Int32)))] ⟨rfl, rfl, rfl, rfl, rfl, trivial⟩ (hn ((x4 + (1 : Int32)), s) rfl)
def fX4_markPair_B3 (n : Nat) (x1 : Int32) (x2 : Int32) (x3 : Int32) (w3 : Int32 × zs) : Option ((Int32 × zs) ⊕ (zs)) := if (26 : Int32) ≤ w3.1 then some (Sum.inr w3.2) else zp (fX4_hasInRange n w3.2 x1 w3.1) (fun r2 => zp (fX4_hasInRange n w3.2 x2 w3.1) (fun r5 => if r2 = r5 then fX4_markPair_J38 n w3.2 x1 x2 x3 w3.1 else cond (zi_in w3.1 26) (cond (zi_in w3.1 26) (fX4_markPair_J38 n (zsi w3.2 44 w3.1.toNatClampNeg ((w3.2.1 44 w3.1.toNatClampNeg) ||| x3)) x1 x2 x3 w3.1) none) none))
theorem tX4_markPair_B3 {n : Nat} {c : Nat × Nat} {x1 : Int32} {x2 : Int32} {x3 : Int32} {w3 : Int32 × zs} {o : _} {v : Option Value} {S' : zi_S} (h : fX4_markPair_B3 n x1 x2 x3 w3 = some o) (hn : ∀ w3, o = Sum.inl w3 → zr kX4_markPair 0 1 3 [some (.ref 43), some (.int x1), some (.int x2), some (.int x3), some (.int w3.1)] [] (zS c w3.2) v S') (hx : ∀ z, o = Sum.inr z → (fun z => zr kX4_markPair 0 1 44 [none, none, none, none, none] [] (zS c z) v S') z) : zr kX4_markPair 0 1 3 [some (.ref 43), some (.int x1), some (.int x2), some (.int x3), some (.int w3.1)] [] (zS c w3.2) v S' := by
  unfold fX4_markPair_B3 at h
  refine zr_many 2 (pc' := 7) (L' := [some (.ref 43), some (.int x1), some (.int x2), some (.int x3), some (.int w3.1)]) (st' := [.int (26 : Int32), .int w3.1]) (S1 := zS c w3.2) rfl ?_
  refine zq_if2 (b := (26 : Int32) ≤ w3.1) rfl Iff.rfl rfl (fun g1 => ?_) (fun g1 => ?_)
  · rw [if_pos g1] at h
    obtain rfl := Option.some.inj h
    exact zr_wk [none, none, none, none, none] trivial (hx w3.2 rfl)
  · rw [if_neg g1] at h
    refine zr_many 3 (pc' := 14) (L' := [some (.ref 43), some (.int x1), some (.int x2), some (.int x3), some (.int w3.1)]) (st' := [.int w3.1, .int x1, .ref 43]) (S1 := zS c w3.2) rfl ?_
    obtain ⟨r2, g4, h⟩ := zp_inv h
    refine zq_call1 rfl rfl (zh_43 _) rfl rfl rfl (tX4_hasInRange g4) rfl ?_
    refine zr_many 3 (pc' := 21) (L' := [some (.ref 43), some (.int x1), some (.int x2), some (.int x3), some (.int w3.1)]) (st' := [.int w3.1, .int x2, .ref 43, .int r2]) (S1 := zS c w3.2) rfl ?_
    obtain ⟨r5, g7, h⟩ := zp_inv h
    refine zq_call1 rfl rfl (zh_43 _) rfl rfl rfl (tX4_hasInRange g7) rfl ?_
    refine zq_if2 (b := r2 = r5) rfl Iff.rfl rfl (fun g8 => ?_) (fun g8 => ?_)
    · rw [if_pos g8] at h
      exact zr_wk [some (.ref 43), some (.int x1), some (.int x2), some (.int x3), some (.int w3.1)] ⟨rfl, rfl, rfl, rfl, rfl, trivial⟩ (tX4_markPair_J38 h hn hx)
    · rw [if_neg g8] at h
      refine zr_many 1 (pc' := 28) (L' := [some (.ref 43), some (.int x1), some (.int x2), some (.int x3), some (.int w3.1)]) (st' := [.ref 43]) (S1 := zS c w3.2) rfl ?_
      refine zq_get rfl (zh_43 _) rfl rfl rfl ?_
      refine zr_many 2 (pc' := 34) (L' := [some (.ref 43), some (.int x1), some (.int x2), some (.int x3), some (.int w3.1)]) (st' := [.int w3.1, .ref 44, .int w3.1, .ref 44]) (S1 := zS c w3.2) rfl ?_
      obtain ⟨g9, h⟩ := zi_cond_inv h
      refine zq_ild rfl (zh_44 _) rfl g9 rfl ?_
      refine zr_many 2 (pc' := 37) (L' := [some (.ref 43), some (.int x1), some (.int x2), some (.int x3), some (.int w3.1)]) (st' := [.int ((w3.2.1 44 w3.1.toNatClampNeg) ||| x3), .int w3.1, .ref 44]) (S1 := zS c w3.2) rfl ?_
      obtain ⟨g10, h⟩ := zi_cond_inv h
      refine zq_ist rfl zh_44 rfl g10 rfl ?_
      exact zr_wk [some (.ref 43), some (.int x1), some (.int x2), some (.int x3), some (.int w3.1)] ⟨rfl, rfl, rfl, rfl, rfl, trivial⟩ (tX4_markPair_J38 h hn hx)
def fX4_markPair (n : Nat) (s : zs) (x1 : Int32) (x2 : Int32) (x3 : Int32) : Option zs := zp (zl (fX4_markPair_B3 n x1 x2 x3) n ((0 : Int32), s)) (fun w11 => some w11)
theorem tX4_markPair {n : Nat} {c : Nat × Nat} {s : zs} {x1 : Int32} {x2 : Int32} {x3 : Int32} {s' : zs} (h : fX4_markPair n s x1 x2 x3 = some s') : zc 2 810 [.ref 43, .int x1, .int x2, .int x3] (zS c s) none (zS c s') := by
  refine zc_of (k := kX4_markPair) (rt := 0) (L := [some (.ref 43), some (.int x1), some (.int x2), some (.int x3), none]) zm_810.1 rfl rfl (by decide) rfl rfl ?_
  unfold fX4_markPair at h
  refine zr_many 2 (pc' := 3) (L' := [some (.ref 43), some (.int x1), some (.int x2), some (.int x3), some (.int (0 : Int32))]) (st' := []) (S1 := zS c s) rfl ?_
  obtain ⟨w11, g12, h⟩ := zp_inv h
  refine zr_wk [some (.ref 43), some (.int x1), some (.int x2), some (.int x3), some (.int (0 : Int32))] ⟨rfl, rfl, rfl, rfl, rfl, trivial⟩ (zl_cert (Z := fun w3 => zr kX4_markPair 0 1 3 [some (.ref 43), some (.int x1), some (.int x2), some (.int x3), some (.int w3.1)] [] (zS c w3.2) _ _) (Y := (fun z => zr kX4_markPair 0 1 44 [none, none, none, none, none] [] (zS c z) _ _)) (fun w o h1 h2 h3 => tX4_markPair_B3 h1 h2 h3) n _ _ g12 ?_)
  show zr kX4_markPair 0 1 44 [none, none, none, none, none] [] (zS c w11) _ _
  obtain rfl := Option.some.inj h
  exact zq_vret rfl
def fX4_findPairs_B7 (n : Nat) (x1 : Int32) (w7 : Int32 × zs) : Option ((Int32 × zs) ⊕ (zs)) := if (26 : Int32) ≤ w7.1 then some (Sum.inr w7.2) else cond (zi_in w7.1 26) (some (Sum.inl ((w7.1 + (1 : Int32)), (zsi w7.2 44 w7.1.toNatClampNeg (0 : Int32))))) none
theorem tX4_findPairs_B7 {n : Nat} {c : Nat × Nat} {x1 : Int32} {w7 : Int32 × zs} {o : _} {v : Option Value} {S' : zi_S} (h : fX4_findPairs_B7 n x1 w7 = some o) (hn : ∀ w7, o = Sum.inl w7 → zr kX4_findPairs 0 2 7 [some (.ref 43), some (.int x1), some (.int w7.1), none, none] [] (zS c w7.2) v S') (hx : ∀ z, o = Sum.inr z → (fun z => zr kX4_findPairs 0 2 26 [some (.ref 43), some (.int x1), none, none, none] [] (zS c z) v S') z) : zr kX4_findPairs 0 2 7 [some (.ref 43), some (.int x1), some (.int w7.1), none, none] [] (zS c w7.2) v S' := by
  unfold fX4_findPairs_B7 at h
  refine zr_many 2 (pc' := 10) (L' := [some (.ref 43), some (.int x1), some (.int w7.1), none, none]) (st' := [.int (26 : Int32), .int w7.1]) (S1 := zS c w7.2) rfl ?_
  refine zq_if2 (b := (26 : Int32) ≤ w7.1) rfl Iff.rfl rfl (fun g1 => ?_) (fun g1 => ?_)
  · rw [if_pos g1] at h
    obtain rfl := Option.some.inj h
    exact zr_wk [some (.ref 43), some (.int x1), none, none, none] ⟨rfl, rfl, trivial⟩ (hx w7.2 rfl)
  · rw [if_neg g1] at h
    refine zr_many 1 (pc' := 14) (L' := [some (.ref 43), some (.int x1), some (.int w7.1), none, none]) (st' := [.ref 43]) (S1 := zS c w7.2) rfl ?_
    refine zq_get rfl (zh_43 _) rfl rfl rfl ?_
    refine zr_many 2 (pc' := 19) (L' := [some (.ref 43), some (.int x1), some (.int w7.1), none, none]) (st' := [.int (0 : Int32), .int w7.1, .ref 44]) (S1 := zS c w7.2) rfl ?_
    obtain ⟨g2, h⟩ := zi_cond_inv h
    refine zq_ist rfl zh_44 rfl g2 rfl ?_
    refine zr_many 2 (pc' := 7) (L' := [some (.ref 43), some (.int x1), some (.int (w7.1 + (1 : Int32))), none, none]) (st' := []) (S1 := zS c (zsi w7.2 44 w7.1.toNatClampNeg (0 : Int32))) rfl ?_
    obtain rfl := Option.some.inj h
    exact zr_wk [some (.ref 43), some (.int x1), some (.int (w7.1 + (1 : Int32))), none, none] ⟨rfl, rfl, rfl, trivial⟩ (hn ((w7.1 + (1 : Int32)), (zsi w7.2 44 w7.1.toNatClampNeg (0 : Int32))) rfl)
def fX4_findPairs_J94 (n : Nat) (s : zs) (x1 : Int32) (x2 : Int32) (x3 : Int32) (x4 : Int32) : Option ((Int32 × Int32 × zs) ⊕ (Int32 × zs)) := some (Sum.inl (x2, (x4 + (1 : Int32)), s))
theorem tX4_findPairs_J94 {n : Nat} {c : Nat × Nat} {s : zs} {x1 : Int32} {x2 : Int32} {x3 : Int32} {x4 : Int32} {o : _} {v : Option Value} {S' : zi_S} (h : fX4_findPairs_J94 n s x1 x2 x3 x4 = some o) (hn : ∀ w46, o = Sum.inl w46 → zr kX4_findPairs 0 2 46 [some (.ref 43), some (.int x1), some (.int w46.1), some (.int x3), some (.int w46.2.1)] [] (zS c w46.2.2) v S') (hx : ∀ z, o = Sum.inr z → (fun z => zr kX4_findPairs 0 2 100 [some (.ref 43), some (.int x1), some (.int z.1), some (.int x3), none] [] (zS c z.2) v S') z) : zr kX4_findPairs 0 2 94 [some (.ref 43), some (.int x1), some (.int x2), some (.int x3), some (.int x4)] [] (zS c s) v S' := by
  unfold fX4_findPairs_J94 at h
  refine zr_many 2 (pc' := 46) (L' := [some (.ref 43), some (.int x1), some (.int x2), some (.int x3), some (.int (x4 + (1 : Int32)))]) (st' := []) (S1 := zS c s) rfl ?_
  obtain rfl := Option.some.inj h
  exact zr_wk [some (.ref 43), some (.int x1), some (.int x2), some (.int x3), some (.int (x4 + (1 : Int32)))] ⟨rfl, rfl, rfl, rfl, rfl, trivial⟩ (hn (x2, (x4 + (1 : Int32)), s) rfl)
def fX4_findPairs_B46 (n : Nat) (x1 : Int32) (x3 : Int32) (w46 : Int32 × Int32 × zs) : Option ((Int32 × Int32 × zs) ⊕ (Int32 × zs)) := if (w46.2.2.1 5 8) ≤ w46.2.1 then some (Sum.inr (w46.1, w46.2.2)) else if ¬ (((x1 >>> (x3 &&& 31)) &&& (x1 >>> (w46.2.1 &&& 31))) &&& (1 : Int32)) = (1 : Int32) then fX4_findPairs_J94 n w46.2.2 x1 w46.1 x3 w46.2.1 else zp (fX4_markPair n (zsi w46.2.2 43 5 ((w46.2.2.1 43 5) ||| w46.1)) x3 w46.2.1 w46.1) (fun s8 => fX4_findPairs_J94 n s8 x1 (w46.1 <<< ((1 : Int32) &&& 31)) x3 w46.2.1)
theorem tX4_findPairs_B46 {n : Nat} {c : Nat × Nat} {x1 : Int32} {x3 : Int32} {w46 : Int32 × Int32 × zs} {o : _} {v : Option Value} {S' : zi_S} (h : fX4_findPairs_B46 n x1 x3 w46 = some o) (hn : ∀ w46, o = Sum.inl w46 → zr kX4_findPairs 0 2 46 [some (.ref 43), some (.int x1), some (.int w46.1), some (.int x3), some (.int w46.2.1)] [] (zS c w46.2.2) v S') (hx : ∀ z, o = Sum.inr z → (fun z => zr kX4_findPairs 0 2 100 [some (.ref 43), some (.int x1), some (.int z.1), some (.int x3), none] [] (zS c z.2) v S') z) : zr kX4_findPairs 0 2 46 [some (.ref 43), some (.int x1), some (.int w46.1), some (.int x3), some (.int w46.2.1)] [] (zS c w46.2.2) v S' := by
  unfold fX4_findPairs_B46 at h
  refine zr_many 2 (pc' := 49) (L' := [some (.ref 43), some (.int x1), some (.int w46.1), some (.int x3), some (.int w46.2.1)]) (st' := [.ref 43, .int w46.2.1]) (S1 := zS c w46.2.2) rfl ?_
  refine zq_get rfl (zh_43 _) rfl rfl rfl ?_
  refine zq_get rfl (zh_5 _) rfl rfl rfl ?_
  refine zq_if2 (b := (w46.2.2.1 5 8) ≤ w46.2.1) rfl Iff.rfl rfl (fun g5 => ?_) (fun g5 => ?_)
  · rw [if_pos g5] at h
    obtain rfl := Option.some.inj h
    exact zr_wk [some (.ref 43), some (.int x1), some (.int w46.1), some (.int x3), none] ⟨rfl, rfl, rfl, rfl, trivial⟩ (hx (w46.1, w46.2.2) rfl)
  · rw [if_neg g5] at h
    refine zr_many 10 (pc' := 69) (L' := [some (.ref 43), some (.int x1), some (.int w46.1), some (.int x3), some (.int w46.2.1)]) (st' := [.int (1 : Int32), .int (((x1 >>> (x3 &&& 31)) &&& (x1 >>> (w46.2.1 &&& 31))) &&& (1 : Int32))]) (S1 := zS c w46.2.2) rfl ?_
    refine zq_if2 (b := ¬ (((x1 >>> (x3 &&& 31)) &&& (x1 >>> (w46.2.1 &&& 31))) &&& (1 : Int32)) = (1 : Int32)) rfl Iff.rfl rfl (fun g6 => ?_) (fun g6 => ?_)
    · rw [if_pos g6] at h
      exact zr_wk [some (.ref 43), some (.int x1), some (.int w46.1), some (.int x3), some (.int w46.2.1)] ⟨rfl, rfl, rfl, rfl, rfl, trivial⟩ (tX4_findPairs_J94 h hn hx)
    · rw [if_neg g6] at h
      refine zr_many 2 (pc' := 74) (L' := [some (.ref 43), some (.int x1), some (.int w46.1), some (.int x3), some (.int w46.2.1)]) (st' := [.ref 43, .ref 43]) (S1 := zS c w46.2.2) rfl ?_
      refine zq_get rfl (zh_43 _) rfl rfl rfl ?_
      refine zr_many 2 (pc' := 79) (L' := [some (.ref 43), some (.int x1), some (.int w46.1), some (.int x3), some (.int w46.2.1)]) (st' := [.int ((w46.2.2.1 43 5) ||| w46.1), .ref 43]) (S1 := zS c w46.2.2) rfl ?_
      refine zq_put (s' := (zsi w46.2.2 43 5 ((w46.2.2.1 43 5) ||| w46.1))) rfl (zh_43 _) rfl rfl rfl rfl zsi_ne rfl ?_
      refine zr_many 4 (pc' := 87) (L' := [some (.ref 43), some (.int x1), some (.int w46.1), some (.int x3), some (.int w46.2.1)]) (st' := [.int w46.1, .int w46.2.1, .int x3, .ref 43]) (S1 := zS c (zsi w46.2.2 43 5 ((w46.2.2.1 43 5) ||| w46.1))) rfl ?_
      obtain ⟨s8, g9, h⟩ := zp_inv h
      refine zq_call0 rfl rfl (zh_43 _) rfl rfl rfl (tX4_markPair g9) rfl ?_
      refine zr_many 4 (pc' := 94) (L' := [some (.ref 43), some (.int x1), some (.int (w46.1 <<< ((1 : Int32) &&& 31))), some (.int x3), some (.int w46.2.1)]) (st' := []) (S1 := zS c s8) rfl ?_
      exact zr_wk [some (.ref 43), some (.int x1), some (.int (w46.1 <<< ((1 : Int32) &&& 31))), some (.int x3), some (.int w46.2.1)] ⟨rfl, rfl, rfl, rfl, rfl, trivial⟩ (tX4_findPairs_J94 h hn hx)
def fX4_findPairs_B30 (n : Nat) (x1 : Int32) (w30 : Int32 × Int32 × zs) : Option ((Int32 × Int32 × zs) ⊕ (zs)) := if (w30.2.2.1 5 8) ≤ w30.2.1 then some (Sum.inr w30.2.2) else zp (zl (fX4_findPairs_B46 n x1 w30.2.1) n (w30.1, (w30.2.1 + (1 : Int32)), w30.2.2)) (fun w10 => some (Sum.inl (w10.1, (w30.2.1 + (1 : Int32)), w10.2)))
theorem tX4_findPairs_B30 {n : Nat} {c : Nat × Nat} {x1 : Int32} {w30 : Int32 × Int32 × zs} {o : _} {v : Option Value} {S' : zi_S} (h : fX4_findPairs_B30 n x1 w30 = some o) (hn : ∀ w30, o = Sum.inl w30 → zr kX4_findPairs 0 2 30 [some (.ref 43), some (.int x1), some (.int w30.1), some (.int w30.2.1), none] [] (zS c w30.2.2) v S') (hx : ∀ z, o = Sum.inr z → (fun z => zr kX4_findPairs 0 2 106 [none, none, none, none, none] [] (zS c z) v S') z) : zr kX4_findPairs 0 2 30 [some (.ref 43), some (.int x1), some (.int w30.1), some (.int w30.2.1), none] [] (zS c w30.2.2) v S' := by
  unfold fX4_findPairs_B30 at h
  refine zr_many 2 (pc' := 32) (L' := [some (.ref 43), some (.int x1), some (.int w30.1), some (.int w30.2.1), none]) (st' := [.ref 43, .int w30.2.1]) (S1 := zS c w30.2.2) rfl ?_
  refine zq_get rfl (zh_43 _) rfl rfl rfl ?_
  refine zq_get rfl (zh_5 _) rfl rfl rfl ?_
  refine zq_if2 (b := (w30.2.2.1 5 8) ≤ w30.2.1) rfl Iff.rfl rfl (fun g4 => ?_) (fun g4 => ?_)
  · rw [if_pos g4] at h
    obtain rfl := Option.some.inj h
    exact zr_wk [none, none, none, none, none] trivial (hx w30.2.2 rfl)
  · rw [if_neg g4] at h
    refine zr_many 4 (pc' := 46) (L' := [some (.ref 43), some (.int x1), some (.int w30.1), some (.int w30.2.1), some (.int (w30.2.1 + (1 : Int32)))]) (st' := []) (S1 := zS c w30.2.2) rfl ?_
    obtain ⟨w10, g11, h⟩ := zp_inv h
    refine zr_wk [some (.ref 43), some (.int x1), some (.int w30.1), some (.int w30.2.1), some (.int (w30.2.1 + (1 : Int32)))] ⟨rfl, rfl, rfl, rfl, rfl, trivial⟩ (zl_cert (Z := fun w46 => zr kX4_findPairs 0 2 46 [some (.ref 43), some (.int x1), some (.int w46.1), some (.int w30.2.1), some (.int w46.2.1)] [] (zS c w46.2.2) _ _) (Y := (fun z => zr kX4_findPairs 0 2 100 [some (.ref 43), some (.int x1), some (.int z.1), some (.int w30.2.1), none] [] (zS c z.2) _ _)) (fun w o h1 h2 h3 => tX4_findPairs_B46 h1 h2 h3) n _ _ g11 ?_)
    show zr kX4_findPairs 0 2 100 [some (.ref 43), some (.int x1), some (.int w10.1), some (.int w30.2.1), none] [] (zS c w10.2) _ _
    refine zr_many 2 (pc' := 30) (L' := [some (.ref 43), some (.int x1), some (.int w10.1), some (.int (w30.2.1 + (1 : Int32))), none]) (st' := []) (S1 := zS c w10.2) rfl ?_
    obtain rfl := Option.some.inj h
    exact zr_wk [some (.ref 43), some (.int x1), some (.int w10.1), some (.int (w30.2.1 + (1 : Int32))), none] ⟨rfl, rfl, rfl, rfl, trivial⟩ (hn (w10.1, (w30.2.1 + (1 : Int32)), w10.2) rfl)
def fX4_findPairs (n : Nat) (s : zs) (x1 : Int32) : Option zs := zp (zl (fX4_findPairs_B7 n x1) n ((0 : Int32), (zsi s 43 5 (0 : Int32)))) (fun w3 => zp (zl (fX4_findPairs_B30 n x1) n ((1 : Int32), (0 : Int32), w3)) (fun w12 => some w12))
theorem tX4_findPairs {n : Nat} {c : Nat × Nat} {s : zs} {x1 : Int32} {s' : zs} (h : fX4_findPairs n s x1 = some s') : zc 3 808 [.ref 43, .int x1] (zS c s) none (zS c s') := by
  refine zc_of (k := kX4_findPairs) (rt := 0) (L := [some (.ref 43), some (.int x1), none, none, none]) zm_808.1 rfl rfl (by decide) rfl rfl ?_
  unfold fX4_findPairs at h
  refine zr_many 2 (pc' := 2) (L' := [some (.ref 43), some (.int x1), none, none, none]) (st' := [.int (0 : Int32), .ref 43]) (S1 := zS c s) rfl ?_
  refine zq_put (s' := (zsi s 43 5 (0 : Int32))) rfl (zh_43 _) rfl rfl rfl rfl zsi_ne rfl ?_
  refine zr_many 2 (pc' := 7) (L' := [some (.ref 43), some (.int x1), some (.int (0 : Int32)), none, none]) (st' := []) (S1 := zS c (zsi s 43 5 (0 : Int32))) rfl ?_
  obtain ⟨w3, g14, h⟩ := zp_inv h
  refine zr_wk [some (.ref 43), some (.int x1), some (.int (0 : Int32)), none, none] ⟨rfl, rfl, rfl, trivial⟩ (zl_cert (Z := fun w7 => zr kX4_findPairs 0 2 7 [some (.ref 43), some (.int x1), some (.int w7.1), none, none] [] (zS c w7.2) _ _) (Y := (fun z => zr kX4_findPairs 0 2 26 [some (.ref 43), some (.int x1), none, none, none] [] (zS c z) _ _)) (fun w o h1 h2 h3 => tX4_findPairs_B7 h1 h2 h3) n _ _ g14 ?_)
  show zr kX4_findPairs 0 2 26 [some (.ref 43), some (.int x1), none, none, none] [] (zS c w3) _ _
  refine zr_many 4 (pc' := 30) (L' := [some (.ref 43), some (.int x1), some (.int (1 : Int32)), some (.int (0 : Int32)), none]) (st' := []) (S1 := zS c w3) rfl ?_
  obtain ⟨w12, g13, h⟩ := zp_inv h
  refine zr_wk [some (.ref 43), some (.int x1), some (.int (1 : Int32)), some (.int (0 : Int32)), none] ⟨rfl, rfl, rfl, rfl, trivial⟩ (zl_cert (Z := fun w30 => zr kX4_findPairs 0 2 30 [some (.ref 43), some (.int x1), some (.int w30.1), some (.int w30.2.1), none] [] (zS c w30.2.2) _ _) (Y := (fun z => zr kX4_findPairs 0 2 106 [none, none, none, none, none] [] (zS c z) _ _)) (fun w o h1 h2 h3 => tX4_findPairs_B30 h1 h2 h3) n _ _ g13 ?_)
  show zr kX4_findPairs 0 2 106 [none, none, none, none, none] [] (zS c w12) _ _
  obtain rfl := Option.some.inj h
  exact zq_vret rfl
def fX4_allApart_B4 (n : Nat) (s : zs) (w4 : Int32 × Int32) : Option ((Int32 × Int32) ⊕ (Int32)) := if (26 : Int32) ≤ w4.2 then some (Sum.inr w4.1) else cond (zi_in w4.2 26) (some (Sum.inl ((w4.1 ||| (s.1 44 w4.2.toNatClampNeg)), (w4.2 + (1 : Int32))))) none
theorem tX4_allApart_B4 {n : Nat} {c : Nat × Nat} {s : zs} {w4 : Int32 × Int32} {o : _} {v : Option Value} {S' : zi_S} (h : fX4_allApart_B4 n s w4 = some o) (hn : ∀ w4, o = Sum.inl w4 → zr kX4_allApart 2 0 4 [some (.ref 43), some (.int w4.1), some (.int w4.2)] [] (zS c s) v S') (hx : ∀ z, o = Sum.inr z → (fun z => zr kX4_allApart 2 0 25 [some (.ref 43), some (.int z), none] [] (zS c s) v S') z) : zr kX4_allApart 2 0 4 [some (.ref 43), some (.int w4.1), some (.int w4.2)] [] (zS c s) v S' := by
  unfold fX4_allApart_B4 at h
  refine zr_many 2 (pc' := 7) (L' := [some (.ref 43), some (.int w4.1), some (.int w4.2)]) (st' := [.int (26 : Int32), .int w4.2]) (S1 := zS c s) rfl ?_
  refine zq_if2 (b := (26 : Int32) ≤ w4.2) rfl Iff.rfl rfl (fun g1 => ?_) (fun g1 => ?_)
  · rw [if_pos g1] at h
    obtain rfl := Option.some.inj h
    exact zr_wk [some (.ref 43), some (.int w4.1), none] ⟨rfl, rfl, trivial⟩ (hx w4.1 rfl)
  · rw [if_neg g1] at h
    refine zr_many 2 (pc' := 12) (L' := [some (.ref 43), some (.int w4.1), some (.int w4.2)]) (st' := [.ref 43, .int w4.1]) (S1 := zS c s) rfl ?_
    refine zq_get rfl (zh_43 _) rfl rfl rfl ?_
    refine zr_many 1 (pc' := 16) (L' := [some (.ref 43), some (.int w4.1), some (.int w4.2)]) (st' := [.int w4.2, .ref 44, .int w4.1]) (S1 := zS c s) rfl ?_
    obtain ⟨g2, h⟩ := zi_cond_inv h
    refine zq_ild rfl (zh_44 _) rfl g2 rfl ?_
    refine zr_many 4 (pc' := 4) (L' := [some (.ref 43), some (.int (w4.1 ||| (s.1 44 w4.2.toNatClampNeg))), some (.int (w4.2 + (1 : Int32)))]) (st' := []) (S1 := zS c s) rfl ?_
    obtain rfl := Option.some.inj h
    exact zr_wk [some (.ref 43), some (.int (w4.1 ||| (s.1 44 w4.2.toNatClampNeg))), some (.int (w4.2 + (1 : Int32)))] ⟨rfl, rfl, rfl, trivial⟩ (hn ((w4.1 ||| (s.1 44 w4.2.toNatClampNeg)), (w4.2 + (1 : Int32))) rfl)
def fX4_allApart_J38 (n : Nat) (s : zs) (y0 : Int32) : Option Int32 := if y0 = 0 ∨ y0 = 1 then some y0 else none
theorem tX4_allApart_J38 {n : Nat} {c : Nat × Nat} {s : zs} {y0 : Int32} {r : Int32} (h : fX4_allApart_J38 n s y0 = some r) : zr kX4_allApart 2 0 38 [none, none, none] [.int y0] (zS c s) (some (.int r)) (zS c s) := by
  unfold fX4_allApart_J38 at h
  obtain ⟨gz, h⟩ := zt_inv h
  obtain rfl := Option.some.inj h
  exact zq_zret rfl gz
def fX4_allApart (n : Nat) (s : zs) : Option Int32 := zp (zl (fX4_allApart_B4 n s) n ((0 : Int32), (0 : Int32))) (fun w3 => if ¬ w3 = (s.1 43 5) then fX4_allApart_J38 n s (0 : Int32) else fX4_allApart_J38 n s (1 : Int32))
theorem tX4_allApart {n : Nat} {c : Nat × Nat} {s : zs} {r : Int32} (h : fX4_allApart n s = some r) : zc 1 809 [.ref 43] (zS c s) (some (.int r)) (zS c s) := by
  refine zc_of (k := kX4_allApart) (rt := 2) (L := [some (.ref 43), none, none]) zm_809.1 rfl rfl (by decide) rfl rfl ?_
  unfold fX4_allApart at h
  refine zr_many 4 (pc' := 4) (L' := [some (.ref 43), some (.int (0 : Int32)), some (.int (0 : Int32))]) (st' := []) (S1 := zS c s) rfl ?_
  obtain ⟨w3, g5, h⟩ := zp_inv h
  refine zr_wk [some (.ref 43), some (.int (0 : Int32)), some (.int (0 : Int32))] ⟨rfl, rfl, rfl, trivial⟩ (zl_cert (Z := fun w4 => zr kX4_allApart 2 0 4 [some (.ref 43), some (.int w4.1), some (.int w4.2)] [] (zS c s) _ _) (Y := (fun z => zr kX4_allApart 2 0 25 [some (.ref 43), some (.int z), none] [] (zS c s) _ _)) (fun w o h1 h2 h3 => tX4_allApart_B4 h1 h2 h3) n _ _ g5 ?_)
  show zr kX4_allApart 2 0 25 [some (.ref 43), some (.int w3), none] [] (zS c s) _ _
  refine zr_many 2 (pc' := 27) (L' := [some (.ref 43), some (.int w3), none]) (st' := [.ref 43, .int w3]) (S1 := zS c s) rfl ?_
  refine zq_get rfl (zh_43 _) rfl rfl rfl ?_
  refine zq_if2 (b := ¬ w3 = (s.1 43 5)) rfl Iff.rfl rfl (fun g4 => ?_) (fun g4 => ?_)
  · rw [if_pos g4] at h
    refine zr_many 1 (pc' := 38) (L' := [some (.ref 43), some (.int w3), none]) (st' := [.int (0 : Int32)]) (S1 := zS c s) rfl ?_
    exact zr_wk [none, none, none] trivial (tX4_allApart_J38 h)
  · rw [if_neg g4] at h
    refine zr_many 2 (pc' := 38) (L' := [some (.ref 43), some (.int w3), none]) (st' := [.int (1 : Int32)]) (S1 := zS c s) rfl ?_
    exact zr_wk [none, none, none] trivial (tX4_allApart_J38 h)
def fX4_partingBy_B23 (n : Nat) (rc0 : zs → Int32 → Int32 → Int32 → Option Int32) (s : zs) (x1 : Int32) (x2 : Int32) (x3 : Int32) (w23 : Int32) : Option ((Int32) ⊕ ((Int32 × Int32) ⊕ (Unit))) := if x2 ≤ w23 then some (Sum.inr (Sum.inr ())) else cond (zi_in w23 26) (zp (rc0 s (x1 - (1 : Int32)) w23 (x3 ||| (s.1 44 w23.toNatClampNeg))) (fun r4 => if r4 < 0 then some (Sum.inl (w23 + (1 : Int32))) else some (Sum.inr (Sum.inl (w23, r4))))) none
theorem tX4_partingBy_B23 {n : Nat} {rc0 : zs → Int32 → Int32 → Int32 → Option Int32} {d : Nat} (hd : 0 ≤ d) (hrc0 : ∀ {c : Nat × Nat} {s : zs} {a1 : Int32} {a2 : Int32} {a3 : Int32} {r : Int32}, rc0 s a1 a2 a3 = some r → zc d 811 [.ref 43, .int a1, .int a2, .int a3] (zS c s) (some (.int r)) (zS c s)) {c : Nat × Nat} {s : zs} {x1 : Int32} {x2 : Int32} {x3 : Int32} {w23 : Int32} {o : _} {v : Option Value} {S' : zi_S} (h : fX4_partingBy_B23 n rc0 s x1 x2 x3 w23 = some o) (hn : ∀ w23, o = Sum.inl w23 → zr kX4_partingBy 1 d 23 [some (.ref 43), some (.int x1), some (.int x2), some (.int x3), some (.int w23), none] [] (zS c s) v S') (hx : ∀ z, o = Sum.inr z → (Sum.elim (fun z => zr kX4_partingBy 1 d 54 [none, none, none, none, some (.int z.1), some (.int z.2)] [] (zS c s) v S') (fun z => zr kX4_partingBy 1 d 68 [none, none, none, none, none, none] [] (zS c s) v S')) z) : zr kX4_partingBy 1 d 23 [some (.ref 43), some (.int x1), some (.int x2), some (.int x3), some (.int w23), none] [] (zS c s) v S' := by
  unfold fX4_partingBy_B23 at h
  refine zr_many 2 (pc' := 26) (L' := [some (.ref 43), some (.int x1), some (.int x2), some (.int x3), some (.int w23), none]) (st' := [.int x2, .int w23]) (S1 := zS c s) rfl ?_
  refine zq_if2 (b := x2 ≤ w23) rfl Iff.rfl rfl (fun g2 => ?_) (fun g2 => ?_)
  · rw [if_pos g2] at h
    obtain rfl := Option.some.inj h
    exact zr_wk [none, none, none, none, none, none] trivial (hx (Sum.inr ()) rfl)
  · rw [if_neg g2] at h
    refine zr_many 7 (pc' := 37) (L' := [some (.ref 43), some (.int x1), some (.int x2), some (.int x3), some (.int w23), none]) (st' := [.ref 43, .int x3, .int w23, .int (x1 - (1 : Int32)), .ref 43]) (S1 := zS c s) rfl ?_
    refine zq_get rfl (zh_43 _) rfl rfl rfl ?_
    refine zr_many 1 (pc' := 42) (L' := [some (.ref 43), some (.int x1), some (.int x2), some (.int x3), some (.int w23), none]) (st' := [.int w23, .ref 44, .int x3, .int w23, .int (x1 - (1 : Int32)), .ref 43]) (S1 := zS c s) rfl ?_
    obtain ⟨g3, h⟩ := zi_cond_inv h
    refine zq_ild rfl (zh_44 _) rfl g3 rfl ?_
    refine zr_many 1 (pc' := 44) (L' := [some (.ref 43), some (.int x1), some (.int x2), some (.int x3), some (.int w23), none]) (st' := [.int (x3 ||| (s.1 44 w23.toNatClampNeg)), .int w23, .int (x1 - (1 : Int32)), .ref 43]) (S1 := zS c s) rfl ?_
    obtain ⟨r4, g6, h⟩ := zp_inv h
    refine zq_call1 rfl rfl (zh_43 _) rfl rfl rfl (hrc0 g6) rfl ?_
    refine zr_many 2 (pc' := 51) (L' := [some (.ref 43), some (.int x1), some (.int x2), some (.int x3), some (.int w23), some (.int r4)]) (st' := [.int r4]) (S1 := zS c s) rfl ?_
    refine zq_if1 (b := r4 < 0) rfl Iff.rfl rfl (fun g7 => ?_) (fun g7 => ?_)
    · rw [if_pos g7] at h
      refine zr_many 2 (pc' := 23) (L' := [some (.ref 43), some (.int x1), some (.int x2), some (.int x3), some (.int (w23 + (1 : Int32))), some (.int r4)]) (st' := []) (S1 := zS c s) rfl ?_
      obtain rfl := Option.some.inj h
      exact zr_wk [some (.ref 43), some (.int x1), some (.int x2), some (.int x3), some (.int (w23 + (1 : Int32))), none] ⟨rfl, rfl, rfl, rfl, rfl, trivial⟩ (hn (w23 + (1 : Int32)) rfl)
    · rw [if_neg g7] at h
      obtain rfl := Option.some.inj h
      exact zr_wk [none, none, none, none, some (.int w23), some (.int r4)] ⟨rfl, rfl, trivial⟩ (hx (Sum.inl (w23, r4)) rfl)
def fX4_partingBy_J17 (n : Nat) (rc0 : zs → Int32 → Int32 → Int32 → Option Int32) (s : zs) (y0 : Int32) : Option Int32 := some y0
theorem tX4_partingBy_J17 {n : Nat} {rc0 : zs → Int32 → Int32 → Int32 → Option Int32} {d : Nat} (hd : 0 ≤ d) (hrc0 : ∀ {c : Nat × Nat} {s : zs} {a1 : Int32} {a2 : Int32} {a3 : Int32} {r : Int32}, rc0 s a1 a2 a3 = some r → zc d 811 [.ref 43, .int a1, .int a2, .int a3] (zS c s) (some (.int r)) (zS c s)) {c : Nat × Nat} {s : zs} {y0 : Int32} {r : Int32} (h : fX4_partingBy_J17 n rc0 s y0 = some r) : zr kX4_partingBy 1 d 17 [none, none, none, none, none, none] [.int y0] (zS c s) (some (.int r)) (zS c s) := by
  unfold fX4_partingBy_J17 at h
  obtain rfl := Option.some.inj h
  exact zq_iret rfl
def fX4_partingBy_M (n : Nat) (rc0 : zs → Int32 → Int32 → Int32 → Option Int32) (s : zs) (x1 : Int32) (x2 : Int32) (x3 : Int32) : Option Int32 := if ¬ x1 = 0 then zp (zl (fX4_partingBy_B23 n rc0 s x1 x2 x3) n (x1 - (1 : Int32))) (Sum.elim (fun w8 => some (w8.2 ||| ((1 : Int32) <<< (w8.1 &&& 31)))) (fun w9 => some (-1 : Int32))) else if ¬ x3 = (s.1 43 5) then fX4_partingBy_J17 n rc0 s (-1 : Int32) else fX4_partingBy_J17 n rc0 s (0 : Int32)
theorem tX4_partingBy_M {n : Nat} {rc0 : zs → Int32 → Int32 → Int32 → Option Int32} {d : Nat} (hd : 0 ≤ d) (hrc0 : ∀ {c : Nat × Nat} {s : zs} {a1 : Int32} {a2 : Int32} {a3 : Int32} {r : Int32}, rc0 s a1 a2 a3 = some r → zc d 811 [.ref 43, .int a1, .int a2, .int a3] (zS c s) (some (.int r)) (zS c s)) {c : Nat × Nat} {s : zs} {x1 : Int32} {x2 : Int32} {x3 : Int32} {r : Int32} (h : fX4_partingBy_M n rc0 s x1 x2 x3 = some r) : zc (d + 1) 811 [.ref 43, .int x1, .int x2, .int x3] (zS c s) (some (.int r)) (zS c s) := by
  refine zc_of (k := kX4_partingBy) (rt := 1) (L := [some (.ref 43), some (.int x1), some (.int x2), some (.int x3), none, none]) zm_811.1 rfl rfl (by decide) rfl rfl ?_
  unfold fX4_partingBy_M at h
  refine zr_many 1 (pc' := 1) (L' := [some (.ref 43), some (.int x1), some (.int x2), some (.int x3), none, none]) (st' := [.int x1]) (S1 := zS c s) rfl ?_
  refine zq_if1 (b := ¬ x1 = 0) rfl Iff.rfl rfl (fun g1 => ?_) (fun g1 => ?_)
  · rw [if_pos g1] at h
    refine zr_many 4 (pc' := 23) (L' := [some (.ref 43), some (.int x1), some (.int x2), some (.int x3), some (.int (x1 - (1 : Int32))), none]) (st' := []) (S1 := zS c s) rfl ?_
    obtain ⟨w12, g10, h⟩ := zp_inv h
    rcases w12 with w8 | w9
    · simp only [Sum.elim_inl, Sum.elim_inr] at h
      refine zr_wk [some (.ref 43), some (.int x1), some (.int x2), some (.int x3), some (.int (x1 - (1 : Int32))), none] ⟨rfl, rfl, rfl, rfl, rfl, trivial⟩ (zl_cert (Z := fun w23 => zr kX4_partingBy 1 d 23 [some (.ref 43), some (.int x1), some (.int x2), some (.int x3), some (.int w23), none] [] (zS c s) _ _) (Y := (Sum.elim (fun z => zr kX4_partingBy 1 d 54 [none, none, none, none, some (.int z.1), some (.int z.2)] [] (zS c s) _ _) (fun z => zr kX4_partingBy 1 d 68 [none, none, none, none, none, none] [] (zS c s) _ _))) (fun w o h1 h2 h3 => tX4_partingBy_B23 hd hrc0 h1 h2 h3) n _ _ g10 ?_)
      show zr kX4_partingBy 1 d 54 [none, none, none, none, some (.int w8.1), some (.int w8.2)] [] (zS c s) _ _
      refine zr_many 5 (pc' := 61) (L' := [none, none, none, none, some (.int w8.1), some (.int w8.2)]) (st' := [.int (w8.2 ||| ((1 : Int32) <<< (w8.1 &&& 31)))]) (S1 := zS c s) rfl ?_
      obtain rfl := Option.some.inj h
      exact zq_iret rfl
    · simp only [Sum.elim_inl, Sum.elim_inr] at h
      refine zr_wk [some (.ref 43), some (.int x1), some (.int x2), some (.int x3), some (.int (x1 - (1 : Int32))), none] ⟨rfl, rfl, rfl, rfl, rfl, trivial⟩ (zl_cert (Z := fun w23 => zr kX4_partingBy 1 d 23 [some (.ref 43), some (.int x1), some (.int x2), some (.int x3), some (.int w23), none] [] (zS c s) _ _) (Y := (Sum.elim (fun z => zr kX4_partingBy 1 d 54 [none, none, none, none, some (.int z.1), some (.int z.2)] [] (zS c s) _ _) (fun z => zr kX4_partingBy 1 d 68 [none, none, none, none, none, none] [] (zS c s) _ _))) (fun w o h1 h2 h3 => tX4_partingBy_B23 hd hrc0 h1 h2 h3) n _ _ g10 ?_)
      show zr kX4_partingBy 1 d 68 [none, none, none, none, none, none] [] (zS c s) _ _
      refine zr_many 1 (pc' := 69) (L' := [none, none, none, none, none, none]) (st' := [.int (-1 : Int32)]) (S1 := zS c s) rfl ?_
      obtain rfl := Option.some.inj h
      exact zq_iret rfl
  · rw [if_neg g1] at h
    refine zr_many 2 (pc' := 6) (L' := [some (.ref 43), some (.int x1), some (.int x2), some (.int x3), none, none]) (st' := [.ref 43, .int x3]) (S1 := zS c s) rfl ?_
    refine zq_get rfl (zh_43 _) rfl rfl rfl ?_
    refine zq_if2 (b := ¬ x3 = (s.1 43 5)) rfl Iff.rfl rfl (fun g11 => ?_) (fun g11 => ?_)
    · rw [if_pos g11] at h
      refine zr_many 1 (pc' := 17) (L' := [some (.ref 43), some (.int x1), some (.int x2), some (.int x3), none, none]) (st' := [.int (-1 : Int32)]) (S1 := zS c s) rfl ?_
      exact zr_wk [none, none, none, none, none, none] trivial (tX4_partingBy_J17 hd hrc0 h)
    · rw [if_neg g11] at h
      refine zr_many 2 (pc' := 17) (L' := [some (.ref 43), some (.int x1), some (.int x2), some (.int x3), none, none]) (st' := [.int (0 : Int32)]) (S1 := zS c s) rfl ?_
      exact zr_wk [none, none, none, none, none, none] trivial (tX4_partingBy_J17 hd hrc0 h)
def fX4_partingBy (n : Nat) : Nat → zs → Int32 → Int32 → Int32 → Option Int32
  | 0 => fun _ _ _ _ => none
  | u + 1 => fun s a1 a2 a3 => fX4_partingBy_M n (fX4_partingBy n u) s a1 a2 a3
theorem tX4_partingBy_u {n : Nat} : ∀ (u : Nat) {c : Nat × Nat} {s : zs} {a1 : Int32} {a2 : Int32} {a3 : Int32} {r : Int32}, fX4_partingBy n u s a1 a2 a3 = some r → zc (0 + 1 * u) 811 [.ref 43, .int a1, .int a2, .int a3] (zS c s) (some (.int r)) (zS c s) := by
  intro u
  induction u with
  | zero => intros; rename_i h; cases h
  | succ u ih =>
    intro _ _ _ _ _ _ h
    exact (tX4_partingBy_M (d := 0 + 1 * u) (by omega) ih h).up (by omega)
theorem tX4_partingBy {n : Nat} : ∀ {c : Nat × Nat} {s : zs} {a1 : Int32} {a2 : Int32} {a3 : Int32} {r : Int32}, fX4_partingBy n 6 s a1 a2 a3 = some r → zc 6 811 [.ref 43, .int a1, .int a2, .int a3] (zS c s) (some (.int r)) (zS c s) := tX4_partingBy_u 6
def fX4_parting_B19 (n : Nat) (s : zs) (w19 : Int32) : Option ((Int32) ⊕ ((Int32) ⊕ (Unit))) := if (4 : Int32) < w19 then some (Sum.inr (Sum.inr ())) else zp (fX4_partingBy n 6 s w19 (26 : Int32) (0 : Int32)) (fun r12 => if r12 < 0 then some (Sum.inl (w19 + (1 : Int32))) else some (Sum.inr (Sum.inl r12)))
theorem tX4_parting_B19 {n : Nat} {c : Nat × Nat} {s : zs} {w19 : Int32} {o : _} {v : Option Value} {S' : zi_S} (h : fX4_parting_B19 n s w19 = some o) (hn : ∀ w19, o = Sum.inl w19 → zr kX4_parting 1 6 19 [some (.ref 43), some (.int w19), none] [] (zS c s) v S') (hx : ∀ z, o = Sum.inr z → (Sum.elim (fun z => zr kX4_parting 1 6 37 [none, none, some (.int z)] [] (zS c s) v S') (fun z => zr kX4_parting 1 6 45 [none, none, none] [] (zS c s) v S')) z) : zr kX4_parting 1 6 19 [some (.ref 43), some (.int w19), none] [] (zS c s) v S' := by
  unfold fX4_parting_B19 at h
  refine zr_many 2 (pc' := 21) (L' := [some (.ref 43), some (.int w19), none]) (st' := [.int (4 : Int32), .int w19]) (S1 := zS c s) rfl ?_
  refine zq_if2 (b := (4 : Int32) < w19) rfl Iff.rfl rfl (fun g11 => ?_) (fun g11 => ?_)
  · rw [if_pos g11] at h
    obtain rfl := Option.some.inj h
    exact zr_wk [none, none, none] trivial (hx (Sum.inr ()) rfl)
  · rw [if_neg g11] at h
    refine zr_many 4 (pc' := 29) (L' := [some (.ref 43), some (.int w19), none]) (st' := [.int (0 : Int32), .int (26 : Int32), .int w19, .ref 43]) (S1 := zS c s) rfl ?_
    obtain ⟨r12, g14, h⟩ := zp_inv h
    refine zq_call1 rfl rfl (zh_43 _) rfl rfl rfl (tX4_partingBy g14) rfl ?_
    refine zr_many 2 (pc' := 34) (L' := [some (.ref 43), some (.int w19), some (.int r12)]) (st' := [.int r12]) (S1 := zS c s) rfl ?_
    refine zq_if1 (b := r12 < 0) rfl Iff.rfl rfl (fun g15 => ?_) (fun g15 => ?_)
    · rw [if_pos g15] at h
      refine zr_many 2 (pc' := 19) (L' := [some (.ref 43), some (.int (w19 + (1 : Int32))), some (.int r12)]) (st' := []) (S1 := zS c s) rfl ?_
      obtain rfl := Option.some.inj h
      exact zr_wk [some (.ref 43), some (.int (w19 + (1 : Int32))), none] ⟨rfl, rfl, trivial⟩ (hn (w19 + (1 : Int32)) rfl)
    · rw [if_neg g15] at h
      obtain rfl := Option.some.inj h
      exact zr_wk [none, none, some (.int r12)] ⟨rfl, trivial⟩ (hx (Sum.inl r12) rfl)
def fX4_parting (n : Nat) (s : zs) : Option (Int32 × zs) := zp (fX4_fitting n s) (fun r1 => zp (fX4_findPairs n s r1) (fun s5 => zp (fX4_allApart n s5) (fun r7 => if ¬ r7 = 0 then zp (zl (fX4_parting_B19 n s5) n (0 : Int32)) (Sum.elim (fun w16 => some (w16, s5)) (fun w17 => some ((-1 : Int32), s5))) else some ((-1 : Int32), s5))))
theorem tX4_parting {n : Nat} {c : Nat × Nat} {s : zs} {r : Int32} {s' : zs} (h : fX4_parting n s = some (r, s')) : zc 7 807 [.ref 43] (zS c s) (some (.int r)) (zS c s') := by
  refine zc_of (k := kX4_parting) (rt := 1) (L := [some (.ref 43), none, none]) zm_807.1 rfl rfl (by decide) rfl rfl ?_
  unfold fX4_parting at h
  refine zr_many 2 (pc' := 2) (L' := [some (.ref 43), none, none]) (st' := [.ref 43, .ref 43]) (S1 := zS c s) rfl ?_
  obtain ⟨r1, g3, h⟩ := zp_inv h
  refine zq_call1 rfl rfl (zh_43 _) rfl rfl rfl ((tX4_fitting g3).up (by decide)) rfl ?_
  obtain ⟨s5, g6, h⟩ := zp_inv h
  refine zq_call0 rfl rfl (zh_43 _) rfl rfl rfl ((tX4_findPairs g6).up (by decide)) rfl ?_
  refine zr_many 1 (pc' := 9) (L' := [some (.ref 43), none, none]) (st' := [.ref 43]) (S1 := zS c s5) rfl ?_
  obtain ⟨r7, g9, h⟩ := zp_inv h
  refine zq_call1 rfl rfl (zh_43 _) rfl rfl rfl ((tX4_allApart g9).up (by decide)) rfl ?_
  refine zq_if1 (b := ¬ r7 = 0) rfl Iff.rfl rfl (fun g10 => ?_) (fun g10 => ?_)
  · rw [if_pos g10] at h
    refine zr_many 2 (pc' := 19) (L' := [some (.ref 43), some (.int (0 : Int32)), none]) (st' := []) (S1 := zS c s5) rfl ?_
    obtain ⟨w19, g18, h⟩ := zp_inv h
    rcases w19 with w16 | w17
    · simp only [Sum.elim_inl, Sum.elim_inr] at h
      refine zr_wk [some (.ref 43), some (.int (0 : Int32)), none] ⟨rfl, rfl, trivial⟩ (zl_cert (Z := fun w19 => zr kX4_parting 1 6 19 [some (.ref 43), some (.int w19), none] [] (zS c s5) _ _) (Y := (Sum.elim (fun z => zr kX4_parting 1 6 37 [none, none, some (.int z)] [] (zS c s5) _ _) (fun z => zr kX4_parting 1 6 45 [none, none, none] [] (zS c s5) _ _))) (fun w o h1 h2 h3 => tX4_parting_B19 h1 h2 h3) n _ _ g18 ?_)
      show zr kX4_parting 1 6 37 [none, none, some (.int w16)] [] (zS c s5) _ _
      refine zr_many 1 (pc' := 38) (L' := [none, none, some (.int w16)]) (st' := [.int w16]) (S1 := zS c s5) rfl ?_
      obtain ⟨rfl, rfl⟩ := Prod.mk.inj (Option.some.inj h)
      exact zq_iret rfl
    · simp only [Sum.elim_inl, Sum.elim_inr] at h
      refine zr_wk [some (.ref 43), some (.int (0 : Int32)), none] ⟨rfl, rfl, trivial⟩ (zl_cert (Z := fun w19 => zr kX4_parting 1 6 19 [some (.ref 43), some (.int w19), none] [] (zS c s5) _ _) (Y := (Sum.elim (fun z => zr kX4_parting 1 6 37 [none, none, some (.int z)] [] (zS c s5) _ _) (fun z => zr kX4_parting 1 6 45 [none, none, none] [] (zS c s5) _ _))) (fun w o h1 h2 h3 => tX4_parting_B19 h1 h2 h3) n _ _ g18 ?_)
      show zr kX4_parting 1 6 45 [none, none, none] [] (zS c s5) _ _
      refine zr_many 1 (pc' := 46) (L' := [none, none, none]) (st' := [.int (-1 : Int32)]) (S1 := zS c s5) rfl ?_
      obtain ⟨rfl, rfl⟩ := Prod.mk.inj (Option.some.inj h)
      exact zq_iret rfl
  · rw [if_neg g10] at h
    refine zr_many 1 (pc' := 16) (L' := [some (.ref 43), none, none]) (st' := [.int (-1 : Int32)]) (S1 := zS c s5) rfl ?_
    obtain ⟨rfl, rfl⟩ := Prod.mk.inj (Option.some.inj h)
    exact zq_iret rfl
def fX5_size (n : Nat) (s : zs) : Option Int32 := some (s.1 3 1)
theorem tX5_size {n : Nat} {c : Nat × Nat} {s : zs} {r : Int32} (h : fX5_size n s = some r) : zc 1 1001 [.ref 3] (zS c s) (some (.int r)) (zS c s) := by
  refine zc_of (k := kX5_size) (rt := 1) (L := [some (.ref 3)]) zm_1001.1 rfl rfl (by decide) rfl rfl ?_
  unfold fX5_size at h
  refine zr_many 1 (pc' := 1) (L' := [some (.ref 3)]) (st' := [.ref 3]) (S1 := zS c s) rfl ?_
  refine zq_get rfl (zh_3 _) rfl rfl rfl ?_
  obtain rfl := Option.some.inj h
  exact zq_iret rfl
def fX5_at_J22 (n : Nat) (s : zs) (y0 : Int64) : Option Int64 := some y0
theorem tX5_at_J22 {n : Nat} {c : Nat × Nat} {s : zs} {y0 : Int64} {r : Int64} (h : fX5_at_J22 n s y0 = some r) : zr kX5_at 3 0 22 [none, none] [.long y0] (zS c s) (some (.long r)) (zS c s) := by
  unfold fX5_at_J22 at h
  obtain rfl := Option.some.inj h
  exact zq_lret rfl
def fX5_at_J21 (n : Nat) (s : zs) : Option Int64 := fX5_at_J22 n s (0 : Int64)
theorem tX5_at_J21 {n : Nat} {c : Nat × Nat} {s : zs} {r : Int64} (h : fX5_at_J21 n s = some r) : zr kX5_at 3 0 21 [none, none] [] (zS c s) (some (.long r)) (zS c s) := by
  unfold fX5_at_J21 at h
  refine zr_many 1 (pc' := 22) (L' := [none, none]) (st' := [.long (0 : Int64)]) (S1 := zS c s) rfl ?_
  exact zr_wk [none, none] trivial (tX5_at_J22 h)
def fX5_at (n : Nat) (s : zs) (x1 : Int32) : Option Int64 := if x1 < 0 then fX5_at_J21 n s else if (s.1 3 1) ≤ x1 then fX5_at_J21 n s else cond (zi_in x1 16) (fX5_at_J22 n s (s.2 4 x1.toNatClampNeg)) none
theorem tX5_at {n : Nat} {c : Nat × Nat} {s : zs} {x1 : Int32} {r : Int64} (h : fX5_at n s x1 = some r) : zc 1 1002 [.ref 3, .int x1] (zS c s) (some (.long r)) (zS c s) := by
  refine zc_of (k := kX5_at) (rt := 3) (L := [some (.ref 3), some (.int x1)]) zm_1002.1 rfl rfl (by decide) rfl rfl ?_
  unfold fX5_at at h
  refine zr_many 1 (pc' := 1) (L' := [some (.ref 3), some (.int x1)]) (st' := [.int x1]) (S1 := zS c s) rfl ?_
  refine zq_if1 (b := x1 < 0) rfl Iff.rfl rfl (fun g1 => ?_) (fun g1 => ?_)
  · rw [if_pos g1] at h
    exact zr_wk [none, none] trivial (tX5_at_J21 h)
  · rw [if_neg g1] at h
    refine zr_many 2 (pc' := 6) (L' := [some (.ref 3), some (.int x1)]) (st' := [.ref 3, .int x1]) (S1 := zS c s) rfl ?_
    refine zq_get rfl (zh_3 _) rfl rfl rfl ?_
    refine zq_if2 (b := (s.1 3 1) ≤ x1) rfl Iff.rfl rfl (fun g2 => ?_) (fun g2 => ?_)
    · rw [if_pos g2] at h
      exact zr_wk [none, none] trivial (tX5_at_J21 h)
    · rw [if_neg g2] at h
      refine zr_many 1 (pc' := 13) (L' := [some (.ref 3), some (.int x1)]) (st' := [.ref 3]) (S1 := zS c s) rfl ?_
      refine zq_get rfl (zh_3 _) rfl rfl rfl ?_
      refine zr_many 1 (pc' := 17) (L' := [some (.ref 3), some (.int x1)]) (st' := [.int x1, .ref 4]) (S1 := zS c s) rfl ?_
      obtain ⟨g3, h⟩ := zi_cond_inv h
      refine zq_lld rfl (zh_4 _) rfl g3 rfl ?_
      refine zr_many 1 (pc' := 22) (L' := [some (.ref 3), some (.int x1)]) (st' := [.long (s.2 4 x1.toNatClampNeg)]) (S1 := zS c s) rfl ?_
      exact zr_wk [none, none] trivial (tX5_at_J22 h)
def fX5_clear (n : Nat) (s : zs) : Option zs := some (zsi s 3 1 (0 : Int32))
theorem tX5_clear {n : Nat} {c : Nat × Nat} {s : zs} {s' : zs} (h : fX5_clear n s = some s') : zc 1 1003 [.ref 3] (zS c s) none (zS c s') := by
  refine zc_of (k := kX5_clear) (rt := 0) (L := [some (.ref 3)]) zm_1003.1 rfl rfl (by decide) rfl rfl ?_
  unfold fX5_clear at h
  refine zr_many 2 (pc' := 2) (L' := [some (.ref 3)]) (st' := [.int (0 : Int32), .ref 3]) (S1 := zS c s) rfl ?_
  refine zq_put (s' := (zsi s 3 1 (0 : Int32))) rfl (zh_3 _) rfl rfl rfl rfl zsi_ne rfl ?_
  obtain rfl := Option.some.inj h
  exact zq_vret rfl
def fX5_add_J32 (n : Nat) (s : zs) : Option zs := some s
theorem tX5_add_J32 {n : Nat} {c : Nat × Nat} {s : zs} {s' : zs} (h : fX5_add_J32 n s = some s') : zr kX5_add 0 0 32 [none, none, none] [] (zS c s) none (zS c s') := by
  unfold fX5_add_J32 at h
  obtain rfl := Option.some.inj h
  exact zq_vret rfl
def fX5_add (n : Nat) (s : zs) (x1 : Int64) : Option zs := if (16 : Int32) ≤ (s.1 3 1) then fX5_add_J32 n s else cond (zi_in (s.1 3 1) 16) (zt (zsl s 4 (s.1 3 1).toNatClampNeg x1) (fun s2 => fX5_add_J32 n (zsi s2 3 1 ((s2.1 3 1) + (1 : Int32))))) none
theorem tX5_add {n : Nat} {c : Nat × Nat} {s : zs} {x1 : Int64} {s' : zs} (h : fX5_add n s x1 = some s') : zc 1 1004 [.ref 3, .long x1] (zS c s) none (zS c s') := by
  refine zc_of (k := kX5_add) (rt := 0) (L := [some (.ref 3), some (.long x1), none]) zm_1004.1 rfl rfl (by decide) rfl rfl ?_
  unfold fX5_add at h
  refine zr_many 1 (pc' := 1) (L' := [some (.ref 3), some (.long x1), none]) (st' := [.ref 3]) (S1 := zS c s) rfl ?_
  refine zq_get rfl (zh_3 _) rfl rfl rfl ?_
  refine zr_many 1 (pc' := 5) (L' := [some (.ref 3), some (.long x1), none]) (st' := [.ref 3, .int (s.1 3 1)]) (S1 := zS c s) rfl ?_
  refine zq_get rfl (zh_3 _) rfl rfl rfl ?_
  refine zr_many 1 (pc' := 9) (L' := [some (.ref 3), some (.long x1), none]) (st' := [.int (16 : Int32), .int (s.1 3 1)]) (S1 := zS c s) rfl ?_
  refine zq_if2 (b := (16 : Int32) ≤ (s.1 3 1)) rfl Iff.rfl rfl (fun g1 => ?_) (fun g1 => ?_)
  · rw [if_pos g1] at h
    exact zr_wk [none, none, none] trivial (tX5_add_J32 h)
  · rw [if_neg g1] at h
    refine zr_many 1 (pc' := 13) (L' := [some (.ref 3), some (.long x1), none]) (st' := [.ref 3]) (S1 := zS c s) rfl ?_
    refine zq_get rfl (zh_3 _) rfl rfl rfl ?_
    refine zr_many 1 (pc' := 17) (L' := [some (.ref 3), some (.long x1), none]) (st' := [.ref 3, .ref 4]) (S1 := zS c s) rfl ?_
    refine zq_get rfl (zh_3 _) rfl rfl rfl ?_
    refine zr_many 1 (pc' := 21) (L' := [some (.ref 3), some (.long x1), none]) (st' := [.long x1, .int (s.1 3 1), .ref 4]) (S1 := zS c s) rfl ?_
    obtain ⟨g4, h⟩ := zi_cond_inv h
    refine zq_lst rfl zh_4 rfl g4 rfl ?_
    refine zr_many 2 (pc' := 24) (L' := [some (.ref 3), some (.long x1), none]) (st' := [.ref 3, .ref 3]) (S1 := zS c (zsl s 4 (s.1 3 1).toNatClampNeg x1)) rfl ?_
    refine zq_get rfl (zh_3 _) rfl rfl rfl ?_
    refine zr_many 2 (pc' := 29) (L' := [some (.ref 3), some (.long x1), none]) (st' := [.int (((zsl s 4 (s.1 3 1).toNatClampNeg x1).1 3 1) + (1 : Int32)), .ref 3]) (S1 := zS c (zsl s 4 (s.1 3 1).toNatClampNeg x1)) rfl ?_
    obtain ⟨s2, e3, h⟩ := zt_in h
    rw [← e3]
    refine zq_put (s' := (zsi s2 3 1 ((s2.1 3 1) + (1 : Int32)))) rfl (zh_3 _) rfl rfl rfl rfl zsi_ne rfl ?_
    exact zr_wk [none, none, none] trivial (tX5_add_J32 h)
def fX5_tell (n : Nat) (s : zs) (x1 : Int64) : Option zs := zp (fX5_clear n s) (fun s2 => zp (fX5_add n s2 x1) (fun s5 => some s5))
theorem tX5_tell {n : Nat} {c : Nat × Nat} {s : zs} {x1 : Int64} {s' : zs} (h : fX5_tell n s x1 = some s') : zc 2 1005 [.ref 3, .long x1] (zS c s) none (zS c s') := by
  refine zc_of (k := kX5_tell) (rt := 0) (L := [some (.ref 3), some (.long x1), none]) zm_1005.1 rfl rfl (by decide) rfl rfl ?_
  unfold fX5_tell at h
  refine zr_many 1 (pc' := 1) (L' := [some (.ref 3), some (.long x1), none]) (st' := [.ref 3]) (S1 := zS c s) rfl ?_
  obtain ⟨s2, g3, h⟩ := zp_inv h
  refine zq_call0 rfl rfl (zh_3 _) rfl rfl rfl (tX5_clear g3) rfl ?_
  refine zr_many 2 (pc' := 6) (L' := [some (.ref 3), some (.long x1), none]) (st' := [.long x1, .ref 3]) (S1 := zS c s2) rfl ?_
  obtain ⟨s5, g6, h⟩ := zp_inv h
  refine zq_call0 rfl rfl (zh_3 _) rfl rfl rfl (tX5_add g6) rfl ?_
  obtain rfl := Option.some.inj h
  exact zq_vret rfl
def fX6_size (n : Nat) (s : zs) : Option Int32 := some (s.1 49 2)
theorem tX6_size {n : Nat} {c : Nat × Nat} {s : zs} {r : Int32} (h : fX6_size n s = some r) : zc 1 1201 [.ref 49] (zS c s) (some (.int r)) (zS c s) := by
  refine zc_of (k := kX6_size) (rt := 1) (L := [some (.ref 49)]) zm_1201.1 rfl rfl (by decide) rfl rfl ?_
  unfold fX6_size at h
  refine zr_many 1 (pc' := 1) (L' := [some (.ref 49)]) (st' := [.ref 49]) (S1 := zS c s) rfl ?_
  refine zq_get rfl (zh_49 _) rfl rfl rfl ?_
  obtain rfl := Option.some.inj h
  exact zq_iret rfl
def fX6_clear (n : Nat) (s : zs) : Option zs := some (zsi s 49 2 (0 : Int32))
theorem tX6_clear {n : Nat} {c : Nat × Nat} {s : zs} {s' : zs} (h : fX6_clear n s = some s') : zc 1 1202 [.ref 49] (zS c s) none (zS c s') := by
  refine zc_of (k := kX6_clear) (rt := 0) (L := [some (.ref 49)]) zm_1202.1 rfl rfl (by decide) rfl rfl ?_
  unfold fX6_clear at h
  refine zr_many 2 (pc' := 2) (L' := [some (.ref 49)]) (st' := [.int (0 : Int32), .ref 49]) (S1 := zS c s) rfl ?_
  refine zq_put (s' := (zsi s 49 2 (0 : Int32))) rfl (zh_49 _) rfl rfl rfl rfl zsi_ne rfl ?_
  obtain rfl := Option.some.inj h
  exact zq_vret rfl
def fX6_add_J56 (n : Nat) (s : zs) : Option zs := some s
theorem tX6_add_J56 {n : Nat} {c : Nat × Nat} {s : zs} {s' : zs} (h : fX6_add_J56 n s = some s') : zr kX6_add 0 1 56 [none, none] [] (zS c s) none (zS c s') := by
  unfold fX6_add_J56 at h
  obtain rfl := Option.some.inj h
  exact zq_vret rfl
def fX6_add (n : Nat) (s : zs) (m1 : Nat) : Option zs := cond (zi_in (((s.1 49 1) + (s.1 49 2)) - ((s.1 49 1) + (s.1 49 2)) / (15 : Int32) * (15 : Int32)) 15) (zp (fX3_copy n s (51 + 6 * (((s.1 49 1) + (s.1 49 2)) - ((s.1 49 1) + (s.1 49 2)) / (15 : Int32) * (15 : Int32)).toNatClampNeg) m1) (fun s3 => if (15 : Int32) ≤ (s3.1 49 2) then fX6_add_J56 n (zsi s3 49 1 (((s3.1 49 1) + (1 : Int32)) - ((s3.1 49 1) + (1 : Int32)) / (15 : Int32) * (15 : Int32))) else fX6_add_J56 n (zsi s3 49 2 ((s3.1 49 2) + (1 : Int32))))) none
theorem tX6_add {n : Nat} {c : Nat × Nat} {s : zs} {m1 : Nat} {s' : zs} (hm1 : zM m1) (h : fX6_add n s m1 = some s') : zc 2 1203 [.ref 49, .ref m1] (zS c s) none (zS c s') := by
  refine zc_of (k := kX6_add) (rt := 0) (L := [some (.ref 49), some (.ref m1)]) zm_1203.1 rfl rfl (by decide) rfl rfl ?_
  unfold fX6_add at h
  refine zr_many 1 (pc' := 1) (L' := [some (.ref 49), some (.ref m1)]) (st' := [.ref 49]) (S1 := zS c s) rfl ?_
  refine zq_get rfl (zh_49 _) rfl rfl rfl ?_
  refine zr_many 1 (pc' := 5) (L' := [some (.ref 49), some (.ref m1)]) (st' := [.ref 49, .ref 50]) (S1 := zS c s) rfl ?_
  refine zq_get rfl (zh_49 _) rfl rfl rfl ?_
  refine zr_many 1 (pc' := 9) (L' := [some (.ref 49), some (.ref m1)]) (st' := [.ref 49, .int (s.1 49 1), .ref 50]) (S1 := zS c s) rfl ?_
  refine zq_get rfl (zh_49 _) rfl rfl rfl ?_
  refine zr_many 2 (pc' := 15) (L' := [some (.ref 49), some (.ref m1)]) (st' := [.int (15 : Int32), .int ((s.1 49 1) + (s.1 49 2)), .ref 50]) (S1 := zS c s) rfl ?_
  refine zq_irem rfl (by decide) rfl ?_
  obtain ⟨g1, h⟩ := zi_cond_inv h
  refine zq_ald rfl (zh_50 _) rfl g1 rfl ?_
  refine zr_many 1 (pc' := 18) (L' := [some (.ref 49), some (.ref m1)]) (st' := [.ref m1, .ref (51 + 6 * (((s.1 49 1) + (s.1 49 2)) - ((s.1 49 1) + (s.1 49 2)) / (15 : Int32) * (15 : Int32)).toNatClampNeg)]) (S1 := zS c s) rfl ?_
  obtain ⟨s3, g4, h⟩ := zp_inv h
  refine zq_call0 rfl rfl (zhM_0 (zM_51 g1) _) rfl (zM_lt (j := 0) (zM_51 g1) (by decide)) rfl (tX3_copy (zM_51 g1) hm1 g4) rfl ?_
  refine zr_many 1 (pc' := 22) (L' := [some (.ref 49), some (.ref m1)]) (st' := [.ref 49]) (S1 := zS c s3) rfl ?_
  refine zq_get rfl (zh_49 _) rfl rfl rfl ?_
  refine zr_many 1 (pc' := 27) (L' := [some (.ref 49), some (.ref m1)]) (st' := [.int (15 : Int32), .int (s3.1 49 2)]) (S1 := zS c s3) rfl ?_
  refine zq_if2 (b := (15 : Int32) ≤ (s3.1 49 2)) rfl Iff.rfl rfl (fun g5 => ?_) (fun g5 => ?_)
  · rw [if_pos g5] at h
    refine zr_many 2 (pc' := 45) (L' := [some (.ref 49), some (.ref m1)]) (st' := [.ref 49, .ref 49]) (S1 := zS c s3) rfl ?_
    refine zq_get rfl (zh_49 _) rfl rfl rfl ?_
    refine zr_many 3 (pc' := 52) (L' := [some (.ref 49), some (.ref m1)]) (st' := [.int (15 : Int32), .int ((s3.1 49 1) + (1 : Int32)), .ref 49]) (S1 := zS c s3) rfl ?_
    refine zq_irem rfl (by decide) rfl ?_
    refine zq_put (s' := (zsi s3 49 1 (((s3.1 49 1) + (1 : Int32)) - ((s3.1 49 1) + (1 : Int32)) / (15 : Int32) * (15 : Int32)))) rfl (zh_49 _) rfl rfl rfl rfl zsi_ne rfl ?_
    exact zr_wk [none, none] trivial (tX6_add_J56 h)
  · rw [if_neg g5] at h
    refine zr_many 2 (pc' := 32) (L' := [some (.ref 49), some (.ref m1)]) (st' := [.ref 49, .ref 49]) (S1 := zS c s3) rfl ?_
    refine zq_get rfl (zh_49 _) rfl rfl rfl ?_
    refine zr_many 2 (pc' := 37) (L' := [some (.ref 49), some (.ref m1)]) (st' := [.int ((s3.1 49 2) + (1 : Int32)), .ref 49]) (S1 := zS c s3) rfl ?_
    refine zq_put (s' := (zsi s3 49 2 ((s3.1 49 2) + (1 : Int32)))) rfl (zh_49 _) rfl rfl rfl rfl zsi_ne rfl ?_
    refine zr_many 1 (pc' := 56) (L' := [some (.ref 49), some (.ref m1)]) (st' := []) (S1 := zS c (zsi s3 49 2 ((s3.1 49 2) + (1 : Int32)))) rfl ?_
    exact zr_wk [none, none] trivial (tX6_add_J56 h)
def fX6_takeBack (n : Nat) (s : zs) (m1 : Nat) : Option (Int32 × zs) := if ¬ (s.1 49 2) = 0 then cond (zi_in ((((zsi s 49 2 ((s.1 49 2) - (1 : Int32))).1 49 1) + ((zsi s 49 2 ((s.1 49 2) - (1 : Int32))).1 49 2)) - (((zsi s 49 2 ((s.1 49 2) - (1 : Int32))).1 49 1) + ((zsi s 49 2 ((s.1 49 2) - (1 : Int32))).1 49 2)) / (15 : Int32) * (15 : Int32)) 15) (zp (fX3_copy n (zsi s 49 2 ((s.1 49 2) - (1 : Int32))) m1 (51 + 6 * ((((zsi s 49 2 ((s.1 49 2) - (1 : Int32))).1 49 1) + ((zsi s 49 2 ((s.1 49 2) - (1 : Int32))).1 49 2)) - (((zsi s 49 2 ((s.1 49 2) - (1 : Int32))).1 49 1) + ((zsi s 49 2 ((s.1 49 2) - (1 : Int32))).1 49 2)) / (15 : Int32) * (15 : Int32)).toNatClampNeg)) (fun s4 => some ((1 : Int32), s4))) none else some ((0 : Int32), s)
theorem tX6_takeBack {n : Nat} {c : Nat × Nat} {s : zs} {m1 : Nat} {r : Int32} {s' : zs} (hm1 : zM m1) (h : fX6_takeBack n s m1 = some (r, s')) : zc 2 1204 [.ref 49, .ref m1] (zS c s) (some (.int r)) (zS c s') := by
  refine zc_of (k := kX6_takeBack) (rt := 2) (L := [some (.ref 49), some (.ref m1)]) zm_1204.1 rfl rfl (by decide) rfl rfl ?_
  unfold fX6_takeBack at h
  refine zr_many 1 (pc' := 1) (L' := [some (.ref 49), some (.ref m1)]) (st' := [.ref 49]) (S1 := zS c s) rfl ?_
  refine zq_get rfl (zh_49 _) rfl rfl rfl ?_
  refine zq_if1 (b := ¬ (s.1 49 2) = 0) rfl Iff.rfl rfl (fun g1 => ?_) (fun g1 => ?_)
  · rw [if_pos g1] at h
    refine zr_many 2 (pc' := 11) (L' := [some (.ref 49), some (.ref m1)]) (st' := [.ref 49, .ref 49]) (S1 := zS c s) rfl ?_
    refine zq_get rfl (zh_49 _) rfl rfl rfl ?_
    refine zr_many 2 (pc' := 16) (L' := [some (.ref 49), some (.ref m1)]) (st' := [.int ((s.1 49 2) - (1 : Int32)), .ref 49]) (S1 := zS c s) rfl ?_
    refine zq_put (s' := (zsi s 49 2 ((s.1 49 2) - (1 : Int32)))) rfl (zh_49 _) rfl rfl rfl rfl zsi_ne rfl ?_
    refine zr_many 2 (pc' := 21) (L' := [some (.ref 49), some (.ref m1)]) (st' := [.ref 49, .ref m1]) (S1 := zS c (zsi s 49 2 ((s.1 49 2) - (1 : Int32)))) rfl ?_
    refine zq_get rfl (zh_49 _) rfl rfl rfl ?_
    refine zr_many 1 (pc' := 25) (L' := [some (.ref 49), some (.ref m1)]) (st' := [.ref 49, .ref 50, .ref m1]) (S1 := zS c (zsi s 49 2 ((s.1 49 2) - (1 : Int32)))) rfl ?_
    refine zq_get rfl (zh_49 _) rfl rfl rfl ?_
    refine zr_many 1 (pc' := 29) (L' := [some (.ref 49), some (.ref m1)]) (st' := [.ref 49, .int ((zsi s 49 2 ((s.1 49 2) - (1 : Int32))).1 49 1), .ref 50, .ref m1]) (S1 := zS c (zsi s 49 2 ((s.1 49 2) - (1 : Int32)))) rfl ?_
    refine zq_get rfl (zh_49 _) rfl rfl rfl ?_
    refine zr_many 2 (pc' := 35) (L' := [some (.ref 49), some (.ref m1)]) (st' := [.int (15 : Int32), .int (((zsi s 49 2 ((s.1 49 2) - (1 : Int32))).1 49 1) + ((zsi s 49 2 ((s.1 49 2) - (1 : Int32))).1 49 2)), .ref 50, .ref m1]) (S1 := zS c (zsi s 49 2 ((s.1 49 2) - (1 : Int32)))) rfl ?_
    refine zq_irem rfl (by decide) rfl ?_
    obtain ⟨g2, h⟩ := zi_cond_inv h
    refine zq_ald rfl (zh_50 _) rfl g2 rfl ?_
    obtain ⟨s4, g5, h⟩ := zp_inv h
    refine zq_call0 rfl rfl (zhM_0 hm1 _) rfl (zM_lt (j := 0) hm1 (by decide)) rfl (tX3_copy hm1 (zM_51 g2) g5) rfl ?_
    refine zr_many 1 (pc' := 41) (L' := [some (.ref 49), some (.ref m1)]) (st' := [.int (1 : Int32)]) (S1 := zS c s4) rfl ?_
    obtain ⟨rfl, rfl⟩ := Prod.mk.inj (Option.some.inj h)
    exact zq_zret rfl (by decide)
  · rw [if_neg g1] at h
    refine zr_many 1 (pc' := 8) (L' := [some (.ref 49), some (.ref m1)]) (st' := [.int (0 : Int32)]) (S1 := zS c s) rfl ?_
    obtain ⟨rfl, rfl⟩ := Prod.mk.inj (Option.some.inj h)
    exact zq_zret rfl (by decide)
def fX7_emit (n : Nat) (s : zs) (x1 : Int32) : Option (Int32 × zs) := if (s.1 6 5) < (40 : Int32) then cond (zi_in (s.1 6 5) 40) (zt (zsi s 8 (s.1 6 5).toNatClampNeg x1) (fun s2 => some ((1 : Int32), (zsi s2 6 5 ((s2.1 6 5) + (1 : Int32)))))) none else some ((0 : Int32), s)
theorem tX7_emit {n : Nat} {c : Nat × Nat} {s : zs} {x1 : Int32} {r : Int32} {s' : zs} (h : fX7_emit n s x1 = some (r, s')) : zc 1 1409 [.ref 6, .int x1] (zS c s) (some (.int r)) (zS c s') := by
  refine zc_of (k := kX7_emit) (rt := 2) (L := [some (.ref 6), some (.int x1)]) zm_1409.1 rfl rfl (by decide) rfl rfl ?_
  unfold fX7_emit at h
  refine zr_many 1 (pc' := 1) (L' := [some (.ref 6), some (.int x1)]) (st' := [.ref 6]) (S1 := zS c s) rfl ?_
  refine zq_get rfl (zh_6 _) rfl rfl rfl ?_
  refine zr_many 1 (pc' := 5) (L' := [some (.ref 6), some (.int x1)]) (st' := [.ref 6, .int (s.1 6 5)]) (S1 := zS c s) rfl ?_
  refine zq_get rfl (zh_6 _) rfl rfl rfl ?_
  refine zr_many 1 (pc' := 9) (L' := [some (.ref 6), some (.int x1)]) (st' := [.int (40 : Int32), .int (s.1 6 5)]) (S1 := zS c s) rfl ?_
  refine zq_if2 (b := (s.1 6 5) < (40 : Int32)) rfl Iff.rfl rfl (fun g1 => ?_) (fun g1 => ?_)
  · rw [if_pos g1] at h
    refine zr_many 1 (pc' := 15) (L' := [some (.ref 6), some (.int x1)]) (st' := [.ref 6]) (S1 := zS c s) rfl ?_
    refine zq_get rfl (zh_6 _) rfl rfl rfl ?_
    refine zr_many 1 (pc' := 19) (L' := [some (.ref 6), some (.int x1)]) (st' := [.ref 6, .ref 8]) (S1 := zS c s) rfl ?_
    refine zq_get rfl (zh_6 _) rfl rfl rfl ?_
    refine zr_many 1 (pc' := 23) (L' := [some (.ref 6), some (.int x1)]) (st' := [.int x1, .int (s.1 6 5), .ref 8]) (S1 := zS c s) rfl ?_
    obtain ⟨g4, h⟩ := zi_cond_inv h
    refine zq_ist rfl zh_8 rfl g4 rfl ?_
    refine zr_many 2 (pc' := 26) (L' := [some (.ref 6), some (.int x1)]) (st' := [.ref 6, .ref 6]) (S1 := zS c (zsi s 8 (s.1 6 5).toNatClampNeg x1)) rfl ?_
    refine zq_get rfl (zh_6 _) rfl rfl rfl ?_
    refine zr_many 2 (pc' := 31) (L' := [some (.ref 6), some (.int x1)]) (st' := [.int (((zsi s 8 (s.1 6 5).toNatClampNeg x1).1 6 5) + (1 : Int32)), .ref 6]) (S1 := zS c (zsi s 8 (s.1 6 5).toNatClampNeg x1)) rfl ?_
    obtain ⟨s2, e3, h⟩ := zt_in h
    rw [← e3]
    refine zq_put (s' := (zsi s2 6 5 ((s2.1 6 5) + (1 : Int32)))) rfl (zh_6 _) rfl rfl rfl rfl zsi_ne rfl ?_
    refine zr_many 1 (pc' := 35) (L' := [some (.ref 6), some (.int x1)]) (st' := [.int (1 : Int32)]) (S1 := zS c (zsi s2 6 5 ((s2.1 6 5) + (1 : Int32)))) rfl ?_
    obtain ⟨rfl, rfl⟩ := Prod.mk.inj (Option.some.inj h)
    exact zq_zret rfl (by decide)
  · rw [if_neg g1] at h
    refine zr_many 1 (pc' := 13) (L' := [some (.ref 6), some (.int x1)]) (st' := [.int (0 : Int32)]) (S1 := zS c s) rfl ?_
    obtain ⟨rfl, rfl⟩ := Prod.mk.inj (Option.some.inj h)
    exact zq_zret rfl (by decide)
def fX7_thing_J82 (n : Nat) (rc0 : zs → Int32 → Option (Int32 × zs)) (s : zs) : Option (Int32 × zs) := some ((0 : Int32), s)
theorem tX7_thing_J82 {n : Nat} {rc0 : zs → Int32 → Option (Int32 × zs)} {d : Nat} (hd : 4 ≤ d) (hrc0 : ∀ {c : Nat × Nat} {s : zs} {a2 : Int32} {r : Int32} {s' : zs}, rc0 s a2 = some (r, s') → zc d 1404 [.ref 6, .ref 1, .int a2] (zS c s) (some (.int r)) (zS c s')) {c : Nat × Nat} {s : zs} {r : Int32} {s' : zs} (h : fX7_thing_J82 n rc0 s = some (r, s')) : zr kX7_thing 2 d 82 [none, none, none, none, none] [] (zS c s) (some (.int r)) (zS c s') := by
  unfold fX7_thing_J82 at h
  refine zr_many 1 (pc' := 83) (L' := [none, none, none, none, none]) (st' := [.int (0 : Int32)]) (S1 := zS c s) rfl ?_
  obtain ⟨rfl, rfl⟩ := Prod.mk.inj (Option.some.inj h)
  exact zq_zret rfl (by decide)
def fX7_thing_J66 (n : Nat) (rc0 : zs → Int32 → Option (Int32 × zs)) (s : zs) (x4 : Int32) : Option (Int32 × zs) := if x4 < 0 then fX7_thing_J82 n rc0 s else if 0 ≤ (zti (ztx (1000000 + 0)) ((x4.toUInt32 % 65536).toInt32)) then zp (fX8_step n s) (fun s12 => zb (fX7_emit n s12 ((1000 : Int32) + x4)) (fun r14 s15 => if r14 = 0 ∨ r14 = 1 then some (r14, s15) else none)) else fX7_thing_J82 n rc0 s
theorem tX7_thing_J66 {n : Nat} {rc0 : zs → Int32 → Option (Int32 × zs)} {d : Nat} (hd : 4 ≤ d) (hrc0 : ∀ {c : Nat × Nat} {s : zs} {a2 : Int32} {r : Int32} {s' : zs}, rc0 s a2 = some (r, s') → zc d 1404 [.ref 6, .ref 1, .int a2] (zS c s) (some (.int r)) (zS c s')) {c : Nat × Nat} {s : zs} {x4 : Int32} {r : Int32} {s' : zs} (h : fX7_thing_J66 n rc0 s x4 = some (r, s')) : zr kX7_thing 2 d 66 [some (.ref 6), some (.ref 1), none, none, some (.int x4)] [] (zS c s) (some (.int r)) (zS c s') := by
  unfold fX7_thing_J66 at h
  refine zr_many 1 (pc' := 68) (L' := [some (.ref 6), some (.ref 1), none, none, some (.int x4)]) (st' := [.int x4]) (S1 := zS c s) rfl ?_
  refine zq_if1 (b := x4 < 0) rfl Iff.rfl rfl (fun g9 => ?_) (fun g9 => ?_)
  · rw [if_pos g9] at h
    exact zr_wk [none, none, none, none, none] trivial (tX7_thing_J82 hd hrc0 h)
  · rw [if_neg g9] at h
    refine zr_many 3 (pc' := 76) (L' := [some (.ref 6), some (.ref 1), none, none, some (.int x4)]) (st' := [.int (x4.toUInt32 % 65536).toInt32, .ref (1000000 + 0)]) (S1 := zS c s) rfl ?_
    refine zq_callT rfl rfl (zh_T zT_0 _) rfl (zT_ble zT_0) rfl ((zc_idx zT_0 (by decide)).up (by omega)) rfl ?_
    refine zq_if1 (b := 0 ≤ (zti (ztx (1000000 + 0)) ((x4.toUInt32 % 65536).toInt32))) rfl Iff.rfl rfl (fun g10 => ?_) (fun g10 => ?_)
    · rw [if_pos g10] at h
      refine zr_many 1 (pc' := 85) (L' := [some (.ref 6), some (.ref 1), none, none, some (.int x4)]) (st' := [.ref 1]) (S1 := zS c s) rfl ?_
      obtain ⟨s12, g13, h⟩ := zp_inv h
      refine zq_call0 rfl rfl (zh_1 _) rfl rfl rfl ((tX8_step g13).up (by omega)) rfl ?_
      refine zr_many 4 (pc' := 95) (L' := [some (.ref 6), some (.ref 1), none, none, some (.int x4)]) (st' := [.int ((1000 : Int32) + x4), .ref 6]) (S1 := zS c s12) rfl ?_
      obtain ⟨r14, s15, g16, h⟩ := zb_inv h
      refine zq_call1 rfl rfl (zh_6 _) rfl rfl rfl ((tX7_emit g16).up (by omega)) rfl ?_
      obtain ⟨gz, h⟩ := zt_inv h
      obtain ⟨rfl, rfl⟩ := Prod.mk.inj (Option.some.inj h)
      exact zq_zret rfl gz
    · rw [if_neg g10] at h
      exact zr_wk [none, none, none, none, none] trivial (tX7_thing_J82 hd hrc0 h)
def fX7_thing_J65 (n : Nat) (rc0 : zs → Int32 → Option (Int32 × zs)) (s : zs) (y0 : Int32) : Option (Int32 × zs) := if y0 = 0 ∨ y0 = 1 then some (y0, s) else none
theorem tX7_thing_J65 {n : Nat} {rc0 : zs → Int32 → Option (Int32 × zs)} {d : Nat} (hd : 4 ≤ d) (hrc0 : ∀ {c : Nat × Nat} {s : zs} {a2 : Int32} {r : Int32} {s' : zs}, rc0 s a2 = some (r, s') → zc d 1404 [.ref 6, .ref 1, .int a2] (zS c s) (some (.int r)) (zS c s')) {c : Nat × Nat} {s : zs} {y0 : Int32} {r : Int32} {s' : zs} (h : fX7_thing_J65 n rc0 s y0 = some (r, s')) : zr kX7_thing 2 d 65 [none, none, none, none, none] [.int y0] (zS c s) (some (.int r)) (zS c s') := by
  unfold fX7_thing_J65 at h
  obtain ⟨gz, h⟩ := zt_inv h
  obtain ⟨rfl, rfl⟩ := Prod.mk.inj (Option.some.inj h)
  exact zq_zret rfl gz
def fX7_thing_J64 (n : Nat) (rc0 : zs → Int32 → Option (Int32 × zs)) (s : zs) : Option (Int32 × zs) := fX7_thing_J65 n rc0 s (0 : Int32)
theorem tX7_thing_J64 {n : Nat} {rc0 : zs → Int32 → Option (Int32 × zs)} {d : Nat} (hd : 4 ≤ d) (hrc0 : ∀ {c : Nat × Nat} {s : zs} {a2 : Int32} {r : Int32} {s' : zs}, rc0 s a2 = some (r, s') → zc d 1404 [.ref 6, .ref 1, .int a2] (zS c s) (some (.int r)) (zS c s')) {c : Nat × Nat} {s : zs} {r : Int32} {s' : zs} (h : fX7_thing_J64 n rc0 s = some (r, s')) : zr kX7_thing 2 d 64 [none, none, none, none, none] [] (zS c s) (some (.int r)) (zS c s') := by
  unfold fX7_thing_J64 at h
  refine zr_many 1 (pc' := 65) (L' := [none, none, none, none, none]) (st' := [.int (0 : Int32)]) (S1 := zS c s) rfl ?_
  exact zr_wk [none, none, none, none, none] trivial (tX7_thing_J65 hd hrc0 h)
def fX7_thing_M (n : Nat) (rc0 : zs → Int32 → Option (Int32 × zs)) (s : zs) (x2 : Int32) : Option (Int32 × zs) := zb (fX8_takeNumber n s (3 : Int32)) (fun r1 s2 => if r1 < 0 then zp (fX8_look n s2) (fun r5 => if ¬ r5 = (40 : Int32) then fX7_thing_J66 n rc0 s2 r5 else if (4 : Int32) ≤ x2 then fX7_thing_J66 n rc0 s2 r5 else zp (fX8_step n s2) (fun s19 => zb (rc0 s19 (x2 + (1 : Int32))) (fun r21 s22 => if r21 = 0 then fX7_thing_J64 n rc0 s22 else zb (fX8_take n s22 (41 : Int32) (41 : Int32)) (fun r25 s26 => if r25 < 0 then fX7_thing_J64 n rc0 s26 else fX7_thing_J65 n rc0 s26 (1 : Int32))))) else zb (fX7_emit n s2 r1) (fun r29 s30 => if r29 = 0 ∨ r29 = 1 then some (r29, s30) else none))
theorem tX7_thing_M {n : Nat} {rc0 : zs → Int32 → Option (Int32 × zs)} {d : Nat} (hd : 4 ≤ d) (hrc0 : ∀ {c : Nat × Nat} {s : zs} {a2 : Int32} {r : Int32} {s' : zs}, rc0 s a2 = some (r, s') → zc d 1404 [.ref 6, .ref 1, .int a2] (zS c s) (some (.int r)) (zS c s')) {c : Nat × Nat} {s : zs} {x2 : Int32} {r : Int32} {s' : zs} (h : fX7_thing_M n rc0 s x2 = some (r, s')) : zc (d + 1) 1408 [.ref 6, .ref 1, .int x2] (zS c s) (some (.int r)) (zS c s') := by
  refine zc_of (k := kX7_thing) (rt := 2) (L := [some (.ref 6), some (.ref 1), some (.int x2), none, none]) zm_1408.1 rfl rfl (by decide) rfl rfl ?_
  unfold fX7_thing_M at h
  refine zr_many 2 (pc' := 2) (L' := [some (.ref 6), some (.ref 1), some (.int x2), none, none]) (st' := [.int (3 : Int32), .ref 1]) (S1 := zS c s) rfl ?_
  obtain ⟨r1, s2, g3, h⟩ := zb_inv h
  refine zq_call1 rfl rfl (zh_1 _) rfl rfl rfl ((tX8_takeNumber g3).up (by omega)) rfl ?_
  refine zr_many 2 (pc' := 7) (L' := [some (.ref 6), some (.ref 1), some (.int x2), some (.int r1), none]) (st' := [.int r1]) (S1 := zS c s2) rfl ?_
  refine zq_if1 (b := r1 < 0) rfl Iff.rfl rfl (fun g4 => ?_) (fun g4 => ?_)
  · rw [if_pos g4] at h
    refine zr_many 1 (pc' := 17) (L' := [some (.ref 6), some (.ref 1), some (.int x2), some (.int r1), none]) (st' := [.ref 1]) (S1 := zS c s2) rfl ?_
    obtain ⟨r5, g7, h⟩ := zp_inv h
    refine zq_call1 rfl rfl (zh_1 _) rfl rfl rfl ((tX8_look g7).up (by omega)) rfl ?_
    refine zr_many 3 (pc' := 26) (L' := [some (.ref 6), some (.ref 1), some (.int x2), some (.int r1), some (.int r5)]) (st' := [.int (40 : Int32), .int r5]) (S1 := zS c s2) rfl ?_
    refine zq_if2 (b := ¬ r5 = (40 : Int32)) rfl Iff.rfl rfl (fun g8 => ?_) (fun g8 => ?_)
    · rw [if_pos g8] at h
      exact zr_wk [some (.ref 6), some (.ref 1), none, none, some (.int r5)] ⟨rfl, rfl, rfl, trivial⟩ (tX7_thing_J66 hd hrc0 h)
    · rw [if_neg g8] at h
      refine zr_many 2 (pc' := 31) (L' := [some (.ref 6), some (.ref 1), some (.int x2), some (.int r1), some (.int r5)]) (st' := [.int (4 : Int32), .int x2]) (S1 := zS c s2) rfl ?_
      refine zq_if2 (b := (4 : Int32) ≤ x2) rfl Iff.rfl rfl (fun g17 => ?_) (fun g17 => ?_)
      · rw [if_pos g17] at h
        exact zr_wk [some (.ref 6), some (.ref 1), none, none, some (.int r5)] ⟨rfl, rfl, rfl, trivial⟩ (tX7_thing_J66 hd hrc0 h)
      · rw [if_neg g17] at h
        refine zr_many 1 (pc' := 35) (L' := [some (.ref 6), some (.ref 1), some (.int x2), some (.int r1), some (.int r5)]) (st' := [.ref 1]) (S1 := zS c s2) rfl ?_
        obtain ⟨s19, g20, h⟩ := zp_inv h
        refine zq_call0 rfl rfl (zh_1 _) rfl rfl rfl ((tX8_step g20).up (by omega)) rfl ?_
        refine zr_many 5 (pc' := 43) (L' := [some (.ref 6), some (.ref 1), some (.int x2), some (.int r1), some (.int r5)]) (st' := [.int (x2 + (1 : Int32)), .ref 1, .ref 6]) (S1 := zS c s19) rfl ?_
        obtain ⟨r21, s22, g23, h⟩ := zb_inv h
        refine zq_call1 rfl rfl (zh_6 _) rfl rfl rfl (hrc0 g23) rfl ?_
        refine zq_if1 (b := r21 = 0) rfl Iff.rfl rfl (fun g24 => ?_) (fun g24 => ?_)
        · rw [if_pos g24] at h
          exact zr_wk [none, none, none, none, none] trivial (tX7_thing_J64 hd hrc0 h)
        · rw [if_neg g24] at h
          refine zr_many 3 (pc' := 54) (L' := [some (.ref 6), some (.ref 1), some (.int x2), some (.int r1), some (.int r5)]) (st' := [.int (41 : Int32), .int (41 : Int32), .ref 1]) (S1 := zS c s22) rfl ?_
          obtain ⟨r25, s26, g27, h⟩ := zb_inv h
          refine zq_call1 rfl rfl (zh_1 _) rfl rfl rfl ((tX8_take g27).up (by omega)) rfl ?_
          refine zq_if1 (b := r25 < 0) rfl Iff.rfl rfl (fun g28 => ?_) (fun g28 => ?_)
          · rw [if_pos g28] at h
            exact zr_wk [none, none, none, none, none] trivial (tX7_thing_J64 hd hrc0 h)
          · rw [if_neg g28] at h
            refine zr_many 2 (pc' := 65) (L' := [some (.ref 6), some (.ref 1), some (.int x2), some (.int r1), some (.int r5)]) (st' := [.int (1 : Int32)]) (S1 := zS c s26) rfl ?_
            exact zr_wk [none, none, none, none, none] trivial (tX7_thing_J65 hd hrc0 h)
  · rw [if_neg g4] at h
    refine zr_many 2 (pc' := 12) (L' := [some (.ref 6), some (.ref 1), some (.int x2), some (.int r1), none]) (st' := [.int r1, .ref 6]) (S1 := zS c s2) rfl ?_
    obtain ⟨r29, s30, g31, h⟩ := zb_inv h
    refine zq_call1 rfl rfl (zh_6 _) rfl rfl rfl ((tX7_emit g31).up (by omega)) rfl ?_
    obtain ⟨gz, h⟩ := zt_inv h
    obtain ⟨rfl, rfl⟩ := Prod.mk.inj (Option.some.inj h)
    exact zq_zret rfl gz
