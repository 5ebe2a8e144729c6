/-! ===== printed by wip/gen/dec.py: the methods as functions, each with its run ===== -/
def fX12_voicesOf_J68 (n : Nat) (s : zs) (x2 : Int32) (x3 : Int32) (x4 : Int32) (x6 : Int32) (y0 : Int32) : Option ((Int32 × Int32 × zs) ⊕ (Int32 × zs)) := some (Sum.inl (y0, (x6 + (1 : Int32)), s))
theorem tX12_voicesOf_J68 {n : Nat} {c : Nat × Nat} {s : zs} {x2 : Int32} {x3 : Int32} {x4 : Int32} {x6 : Int32} {y0 : Int32} {o : _} {v : Option Value} {S' : zi_S} (h : fX12_voicesOf_J68 n s x2 x3 x4 x6 y0 = some o) (hn : ∀ w18, o = Sum.inl w18 → zr kX12_voicesOf 1 9 18 [some (.ref 161), none, some (.int x2), some (.int x3), some (.int x4), some (.int w18.1), some (.int w18.2.1)] [] (zS c w18.2.2) v S') (hx : ∀ z, o = Sum.inr z → (fun z => zr kX12_voicesOf 1 9 76 [none, none, none, none, none, some (.int z.1), none] [] (zS c z.2) v S') z) : zr kX12_voicesOf 1 9 68 [some (.ref 161), none, some (.int x2), some (.int x3), some (.int x4), none, some (.int x6)] [.int y0] (zS c s) v S' := by
  unfold fX12_voicesOf_J68 at h
  refine zr_many 3 (pc' := 18) (L' := [some (.ref 161), none, some (.int x2), some (.int x3), some (.int x4), some (.int y0), some (.int (x6 + (1 : Int32)))]) (st' := []) (S1 := zS c s) rfl ?_
  obtain rfl := Option.some.inj h
  exact zr_wk [some (.ref 161), none, some (.int x2), some (.int x3), some (.int x4), some (.int y0), some (.int (x6 + (1 : Int32)))] ⟨rfl, rfl, rfl, rfl, rfl, rfl, trivial⟩ (hn (y0, (x6 + (1 : Int32)), s) rfl)
def fX12_voicesOf_J66 (n : Nat) (s : zs) (x2 : Int32) (x3 : Int32) (x4 : Int32) (x5 : Int32) (x6 : Int32) : Option ((Int32 × Int32 × zs) ⊕ (Int32 × zs)) := fX12_voicesOf_J68 n s x2 x3 x4 x6 x5
theorem tX12_voicesOf_J66 {n : Nat} {c : Nat × Nat} {s : zs} {x2 : Int32} {x3 : Int32} {x4 : Int32} {x5 : Int32} {x6 : Int32} {o : _} {v : Option Value} {S' : zi_S} (h : fX12_voicesOf_J66 n s x2 x3 x4 x5 x6 = some o) (hn : ∀ w18, o = Sum.inl w18 → zr kX12_voicesOf 1 9 18 [some (.ref 161), none, some (.int x2), some (.int x3), some (.int x4), some (.int w18.1), some (.int w18.2.1)] [] (zS c w18.2.2) v S') (hx : ∀ z, o = Sum.inr z → (fun z => zr kX12_voicesOf 1 9 76 [none, none, none, none, none, some (.int z.1), none] [] (zS c z.2) v S') z) : zr kX12_voicesOf 1 9 66 [some (.ref 161), none, some (.int x2), some (.int x3), some (.int x4), some (.int x5), some (.int x6)] [] (zS c s) v S' := by
  unfold fX12_voicesOf_J66 at h
  refine zr_many 1 (pc' := 68) (L' := [some (.ref 161), none, some (.int x2), some (.int x3), some (.int x4), some (.int x5), some (.int x6)]) (st' := [.int x5]) (S1 := zS c s) rfl ?_
  exact zr_wk [some (.ref 161), none, some (.int x2), some (.int x3), some (.int x4), none, some (.int x6)] ⟨rfl, rfl, rfl, rfl, rfl, trivial⟩ (tX12_voicesOf_J68 h hn hx)
def fX12_voicesOf_B18 (n : Nat) (x2 : Int32) (x3 : Int32) (x4 : Int32) (w18 : Int32 × Int32 × zs) : Option ((Int32 × Int32 × zs) ⊕ (Int32 × zs)) := if x3 < w18.2.1 then some (Sum.inr (w18.1, w18.2.2)) else if ¬ (w18.2.1 &&& (x3 ^^^ (-1 : Int32))) = 0 then fX12_voicesOf_J66 n w18.2.2 x2 x3 x4 w18.1 w18.2.1 else zp (fX12_isCheaper n w18.2.2 w18.2.1 w18.1) (fun r6 => if r6 = 0 then fX12_voicesOf_J66 n w18.2.2 x2 x3 x4 w18.1 w18.2.1 else zb (fX12_singsChord n w18.2.2 169 (x4 ||| w18.2.1) x2) (fun r10 s11 => if r10 = 0 then fX12_voicesOf_J66 n s11 x2 x3 x4 w18.1 w18.2.1 else fX12_voicesOf_J68 n s11 x2 x3 x4 w18.2.1 w18.2.1))
theorem tX12_voicesOf_B18 {n : Nat} {c : Nat × Nat} {x2 : Int32} {x3 : Int32} {x4 : Int32} {w18 : Int32 × Int32 × zs} {o : _} {v : Option Value} {S' : zi_S} (h : fX12_voicesOf_B18 n x2 x3 x4 w18 = some o) (hn : ∀ w18, o = Sum.inl w18 → zr kX12_voicesOf 1 9 18 [some (.ref 161), none, some (.int x2), some (.int x3), some (.int x4), some (.int w18.1), some (.int w18.2.1)] [] (zS c w18.2.2) v S') (hx : ∀ z, o = Sum.inr z → (fun z => zr kX12_voicesOf 1 9 76 [none, none, none, none, none, some (.int z.1), none] [] (zS c z.2) v S') z) : zr kX12_voicesOf 1 9 18 [some (.ref 161), none, some (.int x2), some (.int x3), some (.int x4), some (.int w18.1), some (.int w18.2.1)] [] (zS c w18.2.2) v S' := by
  unfold fX12_voicesOf_B18 at h
  refine zr_many 2 (pc' := 21) (L' := [some (.ref 161), none, some (.int x2), some (.int x3), some (.int x4), some (.int w18.1), some (.int w18.2.1)]) (st' := [.int x3, .int w18.2.1]) (S1 := zS c w18.2.2) rfl ?_
  refine zq_if2 (b := x3 < w18.2.1) rfl Iff.rfl rfl (fun g4 => ?_) (fun g4 => ?_)
  · rw [if_pos g4] at h
    obtain rfl := Option.some.inj h
    exact zr_wk [none, none, none, none, none, some (.int w18.1), none] ⟨rfl, trivial⟩ (hx (w18.1, w18.2.2) rfl)
  · rw [if_neg g4] at h
    refine zr_many 5 (pc' := 30) (L' := [some (.ref 161), none, some (.int x2), some (.int x3), some (.int x4), some (.int w18.1), some (.int w18.2.1)]) (st' := [.int (w18.2.1 &&& (x3 ^^^ (-1 : Int32)))]) (S1 := zS c w18.2.2) rfl ?_
    refine zq_if1 (b := ¬ (w18.2.1 &&& (x3 ^^^ (-1 : Int32))) = 0) rfl Iff.rfl rfl (fun g5 => ?_) (fun g5 => ?_)
    · rw [if_pos g5] at h
      exact zr_wk [some (.ref 161), none, some (.int x2), some (.int x3), some (.int x4), some (.int w18.1), some (.int w18.2.1)] ⟨rfl, rfl, rfl, rfl, rfl, rfl, trivial⟩ (tX12_voicesOf_J66 h hn hx)
    · rw [if_neg g5] at h
      refine zr_many 3 (pc' := 38) (L' := [some (.ref 161), none, some (.int x2), some (.int x3), some (.int x4), some (.int w18.1), some (.int w18.2.1)]) (st' := [.int w18.1, .int w18.2.1, .ref 161]) (S1 := zS c w18.2.2) rfl ?_
      obtain ⟨r6, g8, h⟩ := zp_inv h
      refine zq_call1 rfl rfl (zh_161 _) rfl rfl rfl ((tX12_isCheaper g8).up (by decide)) rfl ?_
      refine zq_if1 (b := r6 = 0) rfl Iff.rfl rfl (fun g9 => ?_) (fun g9 => ?_)
      · rw [if_pos g9] at h
        exact zr_wk [some (.ref 161), none, some (.int x2), some (.int x3), some (.int x4), some (.int w18.1), some (.int w18.2.1)] ⟨rfl, rfl, rfl, rfl, rfl, rfl, trivial⟩ (tX12_voicesOf_J66 h hn hx)
      · rw [if_neg g9] at h
        refine zr_many 2 (pc' := 46) (L' := [some (.ref 161), none, some (.int x2), some (.int x3), some (.int x4), some (.int w18.1), some (.int w18.2.1)]) (st' := [.ref 161, .ref 161]) (S1 := zS c w18.2.2) rfl ?_
        refine zq_get rfl (zh_161 _) rfl rfl rfl ?_
        refine zr_many 4 (pc' := 55) (L' := [some (.ref 161), none, some (.int x2), some (.int x3), some (.int x4), some (.int w18.1), some (.int w18.2.1)]) (st' := [.int x2, .int (x4 ||| w18.2.1), .ref 169, .ref 161]) (S1 := zS c w18.2.2) rfl ?_
        obtain ⟨r10, s11, g12, h⟩ := zb_inv h
        refine zq_call1 rfl rfl (zh_161 _) rfl rfl rfl (tX12_singsChord zR_n g12) rfl ?_
        refine zq_if1 (b := r10 = 0) rfl Iff.rfl rfl (fun g13 => ?_) (fun g13 => ?_)
        · rw [if_pos g13] at h
          exact zr_wk [some (.ref 161), none, some (.int x2), some (.int x3), some (.int x4), some (.int w18.1), some (.int w18.2.1)] ⟨rfl, rfl, rfl, rfl, rfl, rfl, trivial⟩ (tX12_voicesOf_J66 h hn hx)
        · rw [if_neg g13] at h
          refine zr_many 2 (pc' := 68) (L' := [some (.ref 161), none, some (.int x2), some (.int x3), some (.int x4), some (.int w18.1), some (.int w18.2.1)]) (st' := [.int w18.2.1]) (S1 := zS c s11) rfl ?_
          exact zr_wk [some (.ref 161), none, some (.int x2), some (.int x3), some (.int x4), none, some (.int w18.2.1)] ⟨rfl, rfl, rfl, rfl, rfl, trivial⟩ (tX12_voicesOf_J68 h hn hx)
def fX12_voicesOf (n : Nat) (s : zs) (x1 : Int32) (x2 : Int32) (x3 : Int32) : Option (Int32 × zs) := zp (fX12_crew n s 169 x1) (fun r1 => zp (zl (fX12_voicesOf_B18 n x2 x3 r1) n ((-2 : Int32), (0 : Int32), s)) (fun w14 => some (w14.1, w14.2)))
theorem tX12_voicesOf {n : Nat} {c : Nat × Nat} {s : zs} {x1 : Int32} {x2 : Int32} {x3 : Int32} {r : Int32} {s' : zs} (h : fX12_voicesOf n s x1 x2 x3 = some (r, s')) : zc 10 2478 [.ref 161, .int x1, .int x2, .int x3] (zS c s) (some (.int r)) (zS c s') := by
  refine zc_of (k := kX12_voicesOf) (rt := 1) (L := [some (.ref 161), some (.int x1), some (.int x2), some (.int x3), none, none, none]) zm_2478.1 rfl rfl (by decide) rfl rfl ?_
  unfold fX12_voicesOf at h
  refine zr_many 2 (pc' := 2) (L' := [some (.ref 161), some (.int x1), some (.int x2), some (.int x3), none, none, none]) (st' := [.ref 161, .ref 161]) (S1 := zS c s) rfl ?_
  refine zq_get rfl (zh_161 _) rfl rfl rfl ?_
  refine zr_many 1 (pc' := 6) (L' := [some (.ref 161), some (.int x1), some (.int x2), some (.int x3), none, none, none]) (st' := [.int x1, .ref 169, .ref 161]) (S1 := zS c s) rfl ?_
  obtain ⟨r1, g3, h⟩ := zp_inv h
  refine zq_call1 rfl rfl (zh_161 _) rfl rfl rfl ((tX12_crew zR_n g3).up (by decide)) rfl ?_
  refine zr_many 5 (pc' := 18) (L' := [some (.ref 161), some (.int x1), some (.int x2), some (.int x3), some (.int r1), some (.int (-2 : Int32)), some (.int (0 : Int32))]) (st' := []) (S1 := zS c s) rfl ?_
  obtain ⟨w14, g15, h⟩ := zp_inv h
  refine zr_wk [some (.ref 161), none, some (.int x2), some (.int x3), some (.int r1), some (.int (-2 : Int32)), some (.int (0 : Int32))] ⟨rfl, rfl, rfl, rfl, rfl, rfl, trivial⟩ (zl_cert (Z := fun w18 => zr kX12_voicesOf 1 9 18 [some (.ref 161), none, some (.int x2), some (.int x3), some (.int r1), some (.int w18.1), some (.int w18.2.1)] [] (zS c w18.2.2) _ _) (Y := (fun z => zr kX12_voicesOf 1 9 76 [none, none, none, none, none, some (.int z.1), none] [] (zS c z.2) _ _)) (fun w o h1 h2 h3 => tX12_voicesOf_B18 h1 h2 h3) n _ _ g15 ?_)
  show zr kX12_voicesOf 1 9 76 [none, none, none, none, none, some (.int w14.1), none] [] (zS c w14.2) _ _
  refine zr_many 1 (pc' := 78) (L' := [none, none, none, none, none, some (.int w14.1), none]) (st' := [.int w14.1]) (S1 := zS c w14.2) rfl ?_
  obtain ⟨rfl, rfl⟩ := Prod.mk.inj (Option.some.inj h)
  exact zq_iret rfl
def fX12_freeAt_J40 (n : Nat) (s : zs) (x1 : Int32) (x3 : Int32) (y0 : Int32) (y1 : Int32) : Option ((Int32 × Int32) ⊕ (Int32)) := some (Sum.inl ((y0 ||| y1), (x3 + (1 : Int32))))
theorem tX12_freeAt_J40 {n : Nat} {c : Nat × Nat} {s : zs} {x1 : Int32} {x3 : Int32} {y0 : Int32} {y1 : Int32} {o : _} {v : Option Value} {S' : zi_S} (h : fX12_freeAt_J40 n s x1 x3 y0 y1 = some o) (hn : ∀ w4, o = Sum.inl w4 → zr kX12_freeAt 1 2 4 [some (.ref 161), some (.int x1), some (.int w4.1), some (.int w4.2)] [] (zS c s) v S') (hx : ∀ z, o = Sum.inr z → (fun z => zr kX12_freeAt 1 2 48 [none, none, some (.int z), none] [] (zS c s) v S') z) : zr kX12_freeAt 1 2 40 [some (.ref 161), some (.int x1), none, some (.int x3)] [.int y1, .int y0] (zS c s) v S' := by
  unfold fX12_freeAt_J40 at h
  refine zr_many 4 (pc' := 4) (L' := [some (.ref 161), some (.int x1), some (.int (y0 ||| y1)), some (.int (x3 + (1 : Int32)))]) (st' := []) (S1 := zS c s) rfl ?_
  obtain rfl := Option.some.inj h
  exact zr_wk [some (.ref 161), some (.int x1), some (.int (y0 ||| y1)), some (.int (x3 + (1 : Int32)))] ⟨rfl, rfl, rfl, rfl, trivial⟩ (hn ((y0 ||| y1), (x3 + (1 : Int32))) rfl)
def fX12_freeAt_J39 (n : Nat) (s : zs) (x1 : Int32) (x3 : Int32) (y0 : Int32) : Option ((Int32 × Int32) ⊕ (Int32)) := fX12_freeAt_J40 n s x1 x3 y0 (0 : Int32)
theorem tX12_freeAt_J39 {n : Nat} {c : Nat × Nat} {s : zs} {x1 : Int32} {x3 : Int32} {y0 : Int32} {o : _} {v : Option Value} {S' : zi_S} (h : fX12_freeAt_J39 n s x1 x3 y0 = some o) (hn : ∀ w4, o = Sum.inl w4 → zr kX12_freeAt 1 2 4 [some (.ref 161), some (.int x1), some (.int w4.1), some (.int w4.2)] [] (zS c s) v S') (hx : ∀ z, o = Sum.inr z → (fun z => zr kX12_freeAt 1 2 48 [none, none, some (.int z), none] [] (zS c s) v S') z) : zr kX12_freeAt 1 2 39 [some (.ref 161), some (.int x1), none, some (.int x3)] [.int y0] (zS c s) v S' := by
  unfold fX12_freeAt_J39 at h
  refine zr_many 1 (pc' := 40) (L' := [some (.ref 161), some (.int x1), none, some (.int x3)]) (st' := [.int (0 : Int32), .int y0]) (S1 := zS c s) rfl ?_
  exact zr_wk [some (.ref 161), some (.int x1), none, some (.int x3)] ⟨rfl, rfl, rfl, trivial⟩ (tX12_freeAt_J40 h hn hx)
def fX12_freeAt_B4 (n : Nat) (s : zs) (x1 : Int32) (w4 : Int32 × Int32) : Option ((Int32 × Int32) ⊕ (Int32)) := if (s.1 161 4) ≤ w4.2 then some (Sum.inr w4.1) else zp (fX12_crewOf n s 169 w4.2) (fun r2 => if 0 ≤ r2 then fX12_freeAt_J39 n s x1 w4.2 w4.1 else zp (fX12_whereIs n s w4.2) (fun r6 => if ¬ r6 = x1 then fX12_freeAt_J39 n s x1 w4.2 w4.1 else fX12_freeAt_J40 n s x1 w4.2 w4.1 ((1 : Int32) <<< (w4.2 &&& 31))))
theorem tX12_freeAt_B4 {n : Nat} {c : Nat × Nat} {s : zs} {x1 : Int32} {w4 : Int32 × Int32} {o : _} {v : Option Value} {S' : zi_S} (h : fX12_freeAt_B4 n s x1 w4 = some o) (hn : ∀ w4, o = Sum.inl w4 → zr kX12_freeAt 1 2 4 [some (.ref 161), some (.int x1), some (.int w4.1), some (.int w4.2)] [] (zS c s) v S') (hx : ∀ z, o = Sum.inr z → (fun z => zr kX12_freeAt 1 2 48 [none, none, some (.int z), none] [] (zS c s) v S') z) : zr kX12_freeAt 1 2 4 [some (.ref 161), some (.int x1), some (.int w4.1), some (.int w4.2)] [] (zS c s) v S' := by
  unfold fX12_freeAt_B4 at h
  refine zr_many 2 (pc' := 6) (L' := [some (.ref 161), some (.int x1), some (.int w4.1), some (.int w4.2)]) (st' := [.ref 161, .int w4.2]) (S1 := zS c s) rfl ?_
  refine zq_get rfl (zh_161 _) rfl rfl rfl ?_
  refine zq_if2 (b := (s.1 161 4) ≤ w4.2) rfl Iff.rfl rfl (fun g1 => ?_) (fun g1 => ?_)
  · rw [if_pos g1] at h
    obtain rfl := Option.some.inj h
    exact zr_wk [none, none, some (.int w4.1), none] ⟨rfl, trivial⟩ (hx w4.1 rfl)
  · rw [if_neg g1] at h
    refine zr_many 2 (pc' := 14) (L' := [some (.ref 161), some (.int x1), some (.int w4.1), some (.int w4.2)]) (st' := [.ref 161, .int w4.1]) (S1 := zS c s) rfl ?_
    refine zq_get rfl (zh_161 _) rfl rfl rfl ?_
    refine zr_many 1 (pc' := 18) (L' := [some (.ref 161), some (.int x1), some (.int w4.1), some (.int w4.2)]) (st' := [.int w4.2, .ref 169, .int w4.1]) (S1 := zS c s) rfl ?_
    obtain ⟨r2, g4, h⟩ := zp_inv h
    refine zq_scall1 rfl (by decide) rfl rfl ((tX12_crewOf zR_n g4).up (by decide)) rfl ?_
    refine zq_if1 (b := 0 ≤ r2) rfl Iff.rfl rfl (fun g5 => ?_) (fun g5 => ?_)
    · rw [if_pos g5] at h
      exact zr_wk [some (.ref 161), some (.int x1), none, some (.int w4.2)] ⟨rfl, rfl, rfl, trivial⟩ (tX12_freeAt_J39 h hn hx)
    · rw [if_neg g5] at h
      refine zr_many 2 (pc' := 26) (L' := [some (.ref 161), some (.int x1), some (.int w4.1), some (.int w4.2)]) (st' := [.int w4.2, .ref 161, .int w4.1]) (S1 := zS c s) rfl ?_
      obtain ⟨r6, g8, h⟩ := zp_inv h
      refine zq_call1 rfl rfl (zh_161 _) rfl rfl rfl (tX12_whereIs g8) rfl ?_
      refine zr_many 1 (pc' := 30) (L' := [some (.ref 161), some (.int x1), some (.int w4.1), some (.int w4.2)]) (st' := [.int x1, .int r6, .int w4.1]) (S1 := zS c s) rfl ?_
      refine zq_if2 (b := ¬ r6 = x1) rfl Iff.rfl rfl (fun g9 => ?_) (fun g9 => ?_)
      · rw [if_pos g9] at h
        exact zr_wk [some (.ref 161), some (.int x1), none, some (.int w4.2)] ⟨rfl, rfl, rfl, trivial⟩ (tX12_freeAt_J39 h hn hx)
      · rw [if_neg g9] at h
        refine zr_many 4 (pc' := 40) (L' := [some (.ref 161), some (.int x1), some (.int w4.1), some (.int w4.2)]) (st' := [.int ((1 : Int32) <<< (w4.2 &&& 31)), .int w4.1]) (S1 := zS c s) rfl ?_
        exact zr_wk [some (.ref 161), some (.int x1), none, some (.int w4.2)] ⟨rfl, rfl, rfl, trivial⟩ (tX12_freeAt_J40 h hn hx)
def fX12_freeAt (n : Nat) (s : zs) (x1 : Int32) : Option Int32 := zp (zl (fX12_freeAt_B4 n s x1) n ((0 : Int32), (0 : Int32))) (fun w10 => some w10)
theorem tX12_freeAt {n : Nat} {c : Nat × Nat} {s : zs} {x1 : Int32} {r : Int32} (h : fX12_freeAt n s x1 = some r) : zc 3 2479 [.ref 161, .int x1] (zS c s) (some (.int r)) (zS c s) := by
  refine zc_of (k := kX12_freeAt) (rt := 1) (L := [some (.ref 161), some (.int x1), none, none]) zm_2479.1 rfl rfl (by decide) rfl rfl ?_
  unfold fX12_freeAt at h
  refine zr_many 4 (pc' := 4) (L' := [some (.ref 161), some (.int x1), some (.int (0 : Int32)), some (.int (0 : Int32))]) (st' := []) (S1 := zS c s) rfl ?_
  obtain ⟨w10, g11, h⟩ := zp_inv h
  refine zr_wk [some (.ref 161), some (.int x1), some (.int (0 : Int32)), some (.int (0 : Int32))] ⟨rfl, rfl, rfl, rfl, trivial⟩ (zl_cert (Z := fun w4 => zr kX12_freeAt 1 2 4 [some (.ref 161), some (.int x1), some (.int w4.1), some (.int w4.2)] [] (zS c s) _ _) (Y := (fun z => zr kX12_freeAt 1 2 48 [none, none, some (.int z), none] [] (zS c s) _ _)) (fun w o h1 h2 h3 => tX12_freeAt_B4 h1 h2 h3) n _ _ g11 ?_)
  show zr kX12_freeAt 1 2 48 [none, none, some (.int w10), none] [] (zS c s) _ _
  refine zr_many 1 (pc' := 49) (L' := [none, none, some (.int w10), none]) (st' := [.int w10]) (S1 := zS c s) rfl ?_
  obtain rfl := Option.some.inj h
  exact zq_iret rfl
def fX12_voices_J54 (n : Nat) (s : zs) (x3 : Int32) : Option (Int32 × zs) := some (x3, s)
theorem tX12_voices_J54 {n : Nat} {c : Nat × Nat} {s : zs} {x3 : Int32} {r : Int32} {s' : zs} (h : fX12_voices_J54 n s x3 = some (r, s')) : zr kX12_voices 1 10 54 [none, none, none, some (.int x3)] [] (zS c s) (some (.int r)) (zS c s') := by
  unfold fX12_voices_J54 at h
  refine zr_many 1 (pc' := 55) (L' := [none, none, none, some (.int x3)]) (st' := [.int x3]) (S1 := zS c s) rfl ?_
  obtain ⟨rfl, rfl⟩ := Prod.mk.inj (Option.some.inj h)
  exact zq_iret rfl
def fX12_voices (n : Nat) (s : zs) (x1 : Int32) (x2 : Int32) : Option (Int32 × zs) := zp (fX12_isPair n (zsi s 161 0 (0 : Int32)) x1 x2) (fun r1 => if ¬ r1 = 0 then zp (fX12_placeOf n (zsi s 161 0 (0 : Int32)) 169 x1) (fun r5 => zp (fX12_freeAt n (zsi s 161 0 (0 : Int32)) r5) (fun r8 => zb (fX12_voicesOf n (zsi s 161 0 (0 : Int32)) x1 x2 r8) (fun r11 s12 => if r11 < 0 then fX12_voices_J54 n s12 r11 else zp (fX12_fees n (zsi s12 161 1 (0 : Int32)) r11) (fun r15 => zp (fX12_enters n (zsi s12 161 1 (0 : Int32)) r15.toInt64) (fun s19 => fX12_voices_J54 n s19 r11))))) else some ((-1 : Int32), (zsi s 161 0 (0 : Int32))))
theorem tX12_voices {n : Nat} {c : Nat × Nat} {s : zs} {x1 : Int32} {x2 : Int32} {r : Int32} {s' : zs} (h : fX12_voices n s x1 x2 = some (r, s')) : zc 11 2480 [.ref 161, .int x1, .int x2] (zS c s) (some (.int r)) (zS c s') := by
  refine zc_of (k := kX12_voices) (rt := 1) (L := [some (.ref 161), some (.int x1), some (.int x2), none]) zm_2480.1 rfl rfl (by decide) rfl rfl ?_
  unfold fX12_voices at h
  refine zr_many 2 (pc' := 2) (L' := [some (.ref 161), some (.int x1), some (.int x2), none]) (st' := [.int (0 : Int32), .ref 161]) (S1 := zS c s) rfl ?_
  refine zq_put (s' := (zsi s 161 0 (0 : Int32))) rfl (zh_161 _) rfl rfl rfl rfl zsi_ne rfl ?_
  refine zr_many 3 (pc' := 8) (L' := [some (.ref 161), some (.int x1), some (.int x2), none]) (st' := [.int x2, .int x1, .ref 161]) (S1 := zS c (zsi s 161 0 (0 : Int32))) rfl ?_
  obtain ⟨r1, g3, h⟩ := zp_inv h
  refine zq_call1 rfl rfl (zh_161 _) rfl rfl rfl ((tX12_isPair g3).up (by decide)) rfl ?_
  refine zq_if1 (b := ¬ r1 = 0) rfl Iff.rfl rfl (fun g4 => ?_) (fun g4 => ?_)
  · rw [if_pos g4] at h
    refine zr_many 5 (pc' := 21) (L' := [some (.ref 161), some (.int x1), some (.int x2), none]) (st' := [.ref 161, .ref 161, .int x2, .int x1, .ref 161]) (S1 := zS c (zsi s 161 0 (0 : Int32))) rfl ?_
    refine zq_get rfl (zh_161 _) rfl rfl rfl ?_
    refine zr_many 1 (pc' := 25) (L' := [some (.ref 161), some (.int x1), some (.int x2), none]) (st' := [.int x1, .ref 169, .ref 161, .int x2, .int x1, .ref 161]) (S1 := zS c (zsi s 161 0 (0 : Int32))) rfl ?_
    obtain ⟨r5, g7, h⟩ := zp_inv h
    refine zq_scall1 rfl (by decide) rfl rfl ((tX12_placeOf zR_n g7).up (by decide)) rfl ?_
    obtain ⟨r8, g10, h⟩ := zp_inv h
    refine zq_call1 rfl rfl (zh_161 _) rfl rfl rfl ((tX12_freeAt g10).up (by decide)) rfl ?_
    obtain ⟨r11, s12, g13, h⟩ := zb_inv h
    refine zq_call1 rfl rfl (zh_161 _) rfl rfl rfl (tX12_voicesOf g13) rfl ?_
    refine zr_many 2 (pc' := 36) (L' := [some (.ref 161), some (.int x1), some (.int x2), some (.int r11)]) (st' := [.int r11]) (S1 := zS c s12) rfl ?_
    refine zq_if1 (b := r11 < 0) rfl Iff.rfl rfl (fun g14 => ?_) (fun g14 => ?_)
    · rw [if_pos g14] at h
      exact zr_wk [none, none, none, some (.int r11)] ⟨rfl, trivial⟩ (tX12_voices_J54 h)
    · rw [if_neg g14] at h
      refine zr_many 2 (pc' := 41) (L' := [some (.ref 161), some (.int x1), some (.int x2), some (.int r11)]) (st' := [.int (0 : Int32), .ref 161]) (S1 := zS c s12) rfl ?_
      refine zq_put (s' := (zsi s12 161 1 (0 : Int32))) rfl (zh_161 _) rfl rfl rfl rfl zsi_ne rfl ?_
      refine zr_many 3 (pc' := 47) (L' := [some (.ref 161), some (.int x1), some (.int x2), some (.int r11)]) (st' := [.int r11, .ref 161, .ref 161]) (S1 := zS c (zsi s12 161 1 (0 : Int32))) rfl ?_
      obtain ⟨r15, g17, h⟩ := zp_inv h
      refine zq_call1 rfl rfl (zh_161 _) rfl rfl rfl ((tX12_fees g17).up (by decide)) rfl ?_
      refine zr_many 1 (pc' := 51) (L' := [some (.ref 161), some (.int x1), some (.int x2), some (.int r11)]) (st' := [.long r15.toInt64, .ref 161]) (S1 := zS c (zsi s12 161 1 (0 : Int32))) rfl ?_
      obtain ⟨s19, g20, h⟩ := zp_inv h
      refine zq_call0 rfl rfl (zh_161 _) rfl rfl rfl ((tX12_enters g20).up (by decide)) rfl ?_
      exact zr_wk [none, none, none, some (.int r11)] ⟨rfl, trivial⟩ (tX12_voices_J54 h)
  · rw [if_neg g4] at h
    refine zr_many 1 (pc' := 15) (L' := [some (.ref 161), some (.int x1), some (.int x2), none]) (st' := [.int (-1 : Int32)]) (S1 := zS c (zsi s 161 0 (0 : Int32))) rfl ?_
    obtain ⟨rfl, rfl⟩ := Prod.mk.inj (Option.some.inj h)
    exact zq_iret rfl
def fX12_puts_B2 (n : Nat) (w2 : Int32 × zs) : Option ((Int32 × zs) ⊕ (zs)) := if (42 : Int32) ≤ w2.1 then some (Sum.inr w2.2) else cond (zi_in w2.1 42) (cond (zi_in w2.1 42) (some (Sum.inl ((w2.1 + (1 : Int32)), (zsi w2.2 170 w2.1.toNatClampNeg (w2.2.1 169 w2.1.toNatClampNeg))))) none) none
theorem tX12_puts_B2 {n : Nat} {c : Nat × Nat} {w2 : Int32 × zs} {o : _} {v : Option Value} {S' : zi_S} (h : fX12_puts_B2 n w2 = some o) (hn : ∀ w2, o = Sum.inl w2 → zr kX12_puts 0 0 2 [some (.ref 161), some (.int w2.1)] [] (zS c w2.2) v S') (hx : ∀ z, o = Sum.inr z → (fun z => zr kX12_puts 0 0 26 [none, none] [] (zS c z) v S') z) : zr kX12_puts 0 0 2 [some (.ref 161), some (.int w2.1)] [] (zS c w2.2) v S' := by
  unfold fX12_puts_B2 at h
  refine zr_many 2 (pc' := 5) (L' := [some (.ref 161), some (.int w2.1)]) (st' := [.int (42 : Int32), .int w2.1]) (S1 := zS c w2.2) rfl ?_
  refine zq_if2 (b := (42 : Int32) ≤ w2.1) rfl Iff.rfl rfl (fun g1 => ?_) (fun g1 => ?_)
  · rw [if_pos g1] at h
    obtain rfl := Option.some.inj h
    exact zr_wk [none, none] trivial (hx w2.2 rfl)
  · rw [if_neg g1] at h
    refine zr_many 1 (pc' := 9) (L' := [some (.ref 161), some (.int w2.1)]) (st' := [.ref 161]) (S1 := zS c w2.2) rfl ?_
    refine zq_get rfl (zh_161 _) rfl rfl rfl ?_
    refine zr_many 2 (pc' := 14) (L' := [some (.ref 161), some (.int w2.1)]) (st' := [.ref 161, .int w2.1, .ref 170]) (S1 := zS c w2.2) rfl ?_
    refine zq_get rfl (zh_161 _) rfl rfl rfl ?_
    refine zr_many 1 (pc' := 18) (L' := [some (.ref 161), some (.int w2.1)]) (st' := [.int w2.1, .ref 169, .int w2.1, .ref 170]) (S1 := zS c w2.2) rfl ?_
    obtain ⟨g2, h⟩ := zi_cond_inv h
    refine zq_ild rfl (zh_169 _) rfl g2 rfl ?_
    obtain ⟨g3, h⟩ := zi_cond_inv h
    refine zq_ist rfl zh_170 rfl g3 rfl ?_
    refine zr_many 2 (pc' := 2) (L' := [some (.ref 161), some (.int (w2.1 + (1 : Int32)))]) (st' := []) (S1 := zS c (zsi w2.2 170 w2.1.toNatClampNeg (w2.2.1 169 w2.1.toNatClampNeg))) rfl ?_
    obtain rfl := Option.some.inj h
    exact zr_wk [some (.ref 161), some (.int (w2.1 + (1 : Int32)))] ⟨rfl, rfl, trivial⟩ (hn ((w2.1 + (1 : Int32)), (zsi w2.2 170 w2.1.toNatClampNeg (w2.2.1 169 w2.1.toNatClampNeg))) rfl)
def fX12_puts (n : Nat) (s : zs) : Option zs := zp (zl (fX12_puts_B2 n) n ((0 : Int32), s)) (fun w4 => some w4)
theorem tX12_puts {n : Nat} {c : Nat × Nat} {s : zs} {s' : zs} (h : fX12_puts n s = some s') : zc 1 2481 [.ref 161] (zS c s) none (zS c s') := by
  refine zc_of (k := kX12_puts) (rt := 0) (L := [some (.ref 161), none]) zm_2481.1 rfl rfl (by decide) rfl rfl ?_
  unfold fX12_puts at h
  refine zr_many 2 (pc' := 2) (L' := [some (.ref 161), some (.int (0 : Int32))]) (st' := []) (S1 := zS c s) rfl ?_
  obtain ⟨w4, g5, h⟩ := zp_inv h
  refine zr_wk [some (.ref 161), some (.int (0 : Int32))] ⟨rfl, rfl, trivial⟩ (zl_cert (Z := fun w2 => zr kX12_puts 0 0 2 [some (.ref 161), some (.int w2.1)] [] (zS c w2.2) _ _) (Y := (fun z => zr kX12_puts 0 0 26 [none, none] [] (zS c z) _ _)) (fun w o h1 h2 h3 => tX12_puts_B2 h1 h2 h3) n _ _ g5 ?_)
  show zr kX12_puts 0 0 26 [none, none] [] (zS c w4) _ _
  obtain rfl := Option.some.inj h
  exact zq_vret rfl
def fX12_goesTo_J49 (n : Nat) (s : zs) (x1 : Int32) (x2 : Int32) (x3 : Int32) (y3 : Int32) (y4 : Int32) : Option ((zs) ⊕ ((zs) ⊕ (zs))) := zp (fX12_flag n s y4) (fun r10 => zb (fX12_passes n s 170 y3 r10) (fun r13 s14 => if 0 ≤ ((zsi s14 161 39 r13).1 161 39) then zt (zsi s14 161 39 r13) (fun s17 => some (Sum.inl (zsi s17 161 38 ((s17.1 161 38) + (1 : Int32))))) else some (Sum.inr (Sum.inl (zsi s14 161 39 r13)))))
theorem tX12_goesTo_J49 {n : Nat} {c : Nat × Nat} {s : zs} {x1 : Int32} {x2 : Int32} {x3 : Int32} {y3 : Int32} {y4 : Int32} {o : _} {v : Option Value} {S' : zi_S} (h : fX12_goesTo_J49 n s x1 x2 x3 y3 y4 = some o) (hn : ∀ w13, o = Sum.inl w13 → zr kX12_goesTo 1 11 13 [some (.ref 161), some (.int x1), some (.int x2), some (.int x3)] [] (zS c w13) v S') (hx : ∀ z, o = Sum.inr z → (Sum.elim (fun z => zr kX12_goesTo 1 11 65 [some (.ref 161), none, none, none] [] (zS c z) v S') (fun z => zr kX12_goesTo 1 11 83 [some (.ref 161), none, none, some (.int x3)] [] (zS c z) v S')) z) : zr kX12_goesTo 1 11 49 [some (.ref 161), some (.int x1), some (.int x2), some (.int x3)] [.int y4, .int y3, .ref 170, .ref 161, .ref 161] (zS c s) v S' := by
  unfold fX12_goesTo_J49 at h
  obtain ⟨r10, g12, h⟩ := zp_inv h
  refine zq_scall1 rfl (by decide) rfl rfl ((tX12_flag g12).up (by decide)) rfl ?_
  obtain ⟨r13, s14, g15, h⟩ := zb_inv h
  refine zq_call1 rfl rfl (zh_161 _) rfl rfl rfl (tX12_passes zR_t g15) rfl ?_
  refine zq_put (s' := (zsi s14 161 39 r13)) rfl (zh_161 _) rfl rfl rfl rfl zsi_ne rfl ?_
  refine zr_many 1 (pc' := 59) (L' := [some (.ref 161), some (.int x1), some (.int x2), some (.int x3)]) (st' := [.ref 161]) (S1 := zS c (zsi s14 161 39 r13)) rfl ?_
  refine zq_get rfl (zh_161 _) rfl rfl rfl ?_
  refine zq_if1 (b := 0 ≤ ((zsi s14 161 39 r13).1 161 39)) rfl Iff.rfl rfl (fun g16 => ?_) (fun g16 => ?_)
  · rw [if_pos g16] at h
    refine zr_many 2 (pc' := 72) (L' := [some (.ref 161), some (.int x1), some (.int x2), some (.int x3)]) (st' := [.ref 161, .ref 161]) (S1 := zS c (zsi s14 161 39 r13)) rfl ?_
    refine zq_get rfl (zh_161 _) rfl rfl rfl ?_
    refine zr_many 2 (pc' := 77) (L' := [some (.ref 161), some (.int x1), some (.int x2), some (.int x3)]) (st' := [.int (((zsi s14 161 39 r13).1 161 38) + (1 : Int32)), .ref 161]) (S1 := zS c (zsi s14 161 39 r13)) rfl ?_
    obtain ⟨s17, e18, h⟩ := zt_in h
    rw [← e18]
    refine zq_put (s' := (zsi s17 161 38 ((s17.1 161 38) + (1 : Int32)))) rfl (zh_161 _) rfl rfl rfl rfl zsi_ne rfl ?_
    refine zr_many 1 (pc' := 13) (L' := [some (.ref 161), some (.int x1), some (.int x2), some (.int x3)]) (st' := []) (S1 := zS c (zsi s17 161 38 ((s17.1 161 38) + (1 : Int32)))) rfl ?_
    obtain rfl := Option.some.inj h
    exact zr_wk [some (.ref 161), some (.int x1), some (.int x2), some (.int x3)] ⟨rfl, rfl, rfl, rfl, trivial⟩ (hn (zsi s17 161 38 ((s17.1 161 38) + (1 : Int32))) rfl)
  · rw [if_neg g16] at h
    obtain rfl := Option.some.inj h
    exact zr_wk [some (.ref 161), none, none, none] ⟨rfl, trivial⟩ (hx (Sum.inl (zsi s14 161 39 r13)) rfl)
def fX12_goesTo_B13 (n : Nat) (x1 : Int32) (x2 : Int32) (x3 : Int32) (w13 : zs) : Option ((zs) ⊕ ((zs) ⊕ (zs))) := zp (fX12_placeOf n w13 170 x1) (fun r2 => if r2 = x2 then some (Sum.inr (Sum.inr w13)) else zp (fX12_placeOf n w13 170 x1) (fun r6 => if x2 ≤ r6 then fX12_goesTo_J49 n w13 x1 x2 x3 x1 (0 : Int32) else fX12_goesTo_J49 n w13 x1 x2 x3 x1 (1 : Int32)))
theorem tX12_goesTo_B13 {n : Nat} {c : Nat × Nat} {x1 : Int32} {x2 : Int32} {x3 : Int32} {w13 : zs} {o : _} {v : Option Value} {S' : zi_S} (h : fX12_goesTo_B13 n x1 x2 x3 w13 = some o) (hn : ∀ w13, o = Sum.inl w13 → zr kX12_goesTo 1 11 13 [some (.ref 161), some (.int x1), some (.int x2), some (.int x3)] [] (zS c w13) v S') (hx : ∀ z, o = Sum.inr z → (Sum.elim (fun z => zr kX12_goesTo 1 11 65 [some (.ref 161), none, none, none] [] (zS c z) v S') (fun z => zr kX12_goesTo 1 11 83 [some (.ref 161), none, none, some (.int x3)] [] (zS c z) v S')) z) : zr kX12_goesTo 1 11 13 [some (.ref 161), some (.int x1), some (.int x2), some (.int x3)] [] (zS c w13) v S' := by
  unfold fX12_goesTo_B13 at h
  refine zr_many 1 (pc' := 14) (L' := [some (.ref 161), some (.int x1), some (.int x2), some (.int x3)]) (st' := [.ref 161]) (S1 := zS c w13) rfl ?_
  refine zq_get rfl (zh_161 _) rfl rfl rfl ?_
  refine zr_many 1 (pc' := 18) (L' := [some (.ref 161), some (.int x1), some (.int x2), some (.int x3)]) (st' := [.int x1, .ref 170]) (S1 := zS c w13) rfl ?_
  obtain ⟨r2, g4, h⟩ := zp_inv h
  refine zq_scall1 rfl (by decide) rfl rfl ((tX12_placeOf zR_t g4).up (by decide)) rfl ?_
  refine zr_many 1 (pc' := 22) (L' := [some (.ref 161), some (.int x1), some (.int x2), some (.int x3)]) (st' := [.int x2, .int r2]) (S1 := zS c w13) rfl ?_
  refine zq_if2 (b := r2 = x2) rfl Iff.rfl rfl (fun g5 => ?_) (fun g5 => ?_)
  · rw [if_pos g5] at h
    obtain rfl := Option.some.inj h
    exact zr_wk [some (.ref 161), none, none, some (.int x3)] ⟨rfl, rfl, trivial⟩ (hx (Sum.inr w13) rfl)
  · rw [if_neg g5] at h
    refine zr_many 3 (pc' := 28) (L' := [some (.ref 161), some (.int x1), some (.int x2), some (.int x3)]) (st' := [.ref 161, .ref 161, .ref 161]) (S1 := zS c w13) rfl ?_
    refine zq_get rfl (zh_161 _) rfl rfl rfl ?_
    refine zr_many 3 (pc' := 34) (L' := [some (.ref 161), some (.int x1), some (.int x2), some (.int x3)]) (st' := [.ref 161, .int x2, .int x1, .ref 170, .ref 161, .ref 161]) (S1 := zS c w13) rfl ?_
    refine zq_get rfl (zh_161 _) rfl rfl rfl ?_
    refine zr_many 1 (pc' := 38) (L' := [some (.ref 161), some (.int x1), some (.int x2), some (.int x3)]) (st' := [.int x1, .ref 170, .int x2, .int x1, .ref 170, .ref 161, .ref 161]) (S1 := zS c w13) rfl ?_
    obtain ⟨r6, g8, h⟩ := zp_inv h
    refine zq_scall1 rfl (by decide) rfl rfl ((tX12_placeOf zR_t g8).up (by decide)) rfl ?_
    refine zq_if2 (b := x2 ≤ r6) rfl Iff.rfl rfl (fun g9 => ?_) (fun g9 => ?_)
    · rw [if_pos g9] at h
      refine zr_many 1 (pc' := 49) (L' := [some (.ref 161), some (.int x1), some (.int x2), some (.int x3)]) (st' := [.int (0 : Int32), .int x1, .ref 170, .ref 161, .ref 161]) (S1 := zS c w13) rfl ?_
      exact zr_wk [some (.ref 161), some (.int x1), some (.int x2), some (.int x3)] ⟨rfl, rfl, rfl, rfl, trivial⟩ (tX12_goesTo_J49 h hn hx)
    · rw [if_neg g9] at h
      refine zr_many 2 (pc' := 49) (L' := [some (.ref 161), some (.int x1), some (.int x2), some (.int x3)]) (st' := [.int (1 : Int32), .int x1, .ref 170, .ref 161, .ref 161]) (S1 := zS c w13) rfl ?_
      exact zr_wk [some (.ref 161), some (.int x1), some (.int x2), some (.int x3)] ⟨rfl, rfl, rfl, rfl, trivial⟩ (tX12_goesTo_J49 h hn hx)
def fX12_goesTo (n : Nat) (s : zs) (x1 : Int32) (x2 : Int32) : Option (Int32 × zs) := zp (zl (fX12_goesTo_B13 n x1 x2 (s.1 170 9)) n (zsi s 161 38 (0 : Int32))) (Sum.elim (fun w19 => some ((w19.1 161 39), w19)) (fun w20 => some (((w20.1 170 9) - (s.1 170 9)), w20)))
theorem tX12_goesTo {n : Nat} {c : Nat × Nat} {s : zs} {x1 : Int32} {x2 : Int32} {r : Int32} {s' : zs} (h : fX12_goesTo n s x1 x2 = some (r, s')) : zc 12 2482 [.ref 161, .int x1, .int x2] (zS c s) (some (.int r)) (zS c s') := by
  refine zc_of (k := kX12_goesTo) (rt := 1) (L := [some (.ref 161), some (.int x1), some (.int x2), none]) zm_2482.1 rfl rfl (by decide) rfl rfl ?_
  unfold fX12_goesTo at h
  refine zr_many 1 (pc' := 1) (L' := [some (.ref 161), some (.int x1), some (.int x2), none]) (st' := [.ref 161]) (S1 := zS c s) rfl ?_
  refine zq_get rfl (zh_161 _) rfl rfl rfl ?_
  refine zr_many 1 (pc' := 6) (L' := [some (.ref 161), some (.int x1), some (.int x2), none]) (st' := [.int (9 : Int32), .ref 170]) (S1 := zS c s) rfl ?_
  refine zq_ild rfl (zh_170 _) rfl (by decide) rfl ?_
  refine zr_many 3 (pc' := 10) (L' := [some (.ref 161), some (.int x1), some (.int x2), some (.int (s.1 170 9))]) (st' := [.int (0 : Int32), .ref 161]) (S1 := zS c s) rfl ?_
  refine zq_put (s' := (zsi s 161 38 (0 : Int32))) rfl (zh_161 _) rfl rfl rfl rfl zsi_ne rfl ?_
  obtain ⟨w23, g22, h⟩ := zp_inv h
  rcases w23 with w19 | w20
  · simp only [Sum.elim_inl, Sum.elim_inr] at h
    refine zr_wk [some (.ref 161), some (.int x1), some (.int x2), some (.int (s.1 170 9))] ⟨rfl, rfl, rfl, rfl, trivial⟩ (zl_cert (Z := fun w13 => zr kX12_goesTo 1 11 13 [some (.ref 161), some (.int x1), some (.int x2), some (.int (s.1 170 9))] [] (zS c w13) _ _) (Y := (Sum.elim (fun z => zr kX12_goesTo 1 11 65 [some (.ref 161), none, none, none] [] (zS c z) _ _) (fun z => zr kX12_goesTo 1 11 83 [some (.ref 161), none, none, some (.int (s.1 170 9))] [] (zS c z) _ _))) (fun w o h1 h2 h3 => tX12_goesTo_B13 h1 h2 h3) n _ _ g22 ?_)
    show zr kX12_goesTo 1 11 65 [some (.ref 161), none, none, none] [] (zS c w19) _ _
    refine zr_many 1 (pc' := 66) (L' := [some (.ref 161), none, none, none]) (st' := [.ref 161]) (S1 := zS c w19) rfl ?_
    refine zq_get rfl (zh_161 _) rfl rfl rfl ?_
    obtain ⟨rfl, rfl⟩ := Prod.mk.inj (Option.some.inj h)
    exact zq_iret rfl
  · simp only [Sum.elim_inl, Sum.elim_inr] at h
    refine zr_wk [some (.ref 161), some (.int x1), some (.int x2), some (.int (s.1 170 9))] ⟨rfl, rfl, rfl, rfl, trivial⟩ (zl_cert (Z := fun w13 => zr kX12_goesTo 1 11 13 [some (.ref 161), some (.int x1), some (.int x2), some (.int (s.1 170 9))] [] (zS c w13) _ _) (Y := (Sum.elim (fun z => zr kX12_goesTo 1 11 65 [some (.ref 161), none, none, none] [] (zS c z) _ _) (fun z => zr kX12_goesTo 1 11 83 [some (.ref 161), none, none, some (.int (s.1 170 9))] [] (zS c z) _ _))) (fun w o h1 h2 h3 => tX12_goesTo_B13 h1 h2 h3) n _ _ g22 ?_)
    show zr kX12_goesTo 1 11 83 [some (.ref 161), none, none, some (.int (s.1 170 9))] [] (zS c w20) _ _
    refine zr_many 1 (pc' := 84) (L' := [some (.ref 161), none, none, some (.int (s.1 170 9))]) (st' := [.ref 161]) (S1 := zS c w20) rfl ?_
    refine zq_get rfl (zh_161 _) rfl rfl rfl ?_
    refine zr_many 1 (pc' := 89) (L' := [some (.ref 161), none, none, some (.int (s.1 170 9))]) (st' := [.int (9 : Int32), .ref 170]) (S1 := zS c w20) rfl ?_
    refine zq_ild rfl (zh_170 _) rfl (by decide) rfl ?_
    refine zr_many 2 (pc' := 92) (L' := [some (.ref 161), none, none, some (.int (s.1 170 9))]) (st' := [.int ((w20.1 170 9) - (s.1 170 9))]) (S1 := zS c w20) rfl ?_
    obtain ⟨rfl, rfl⟩ := Prod.mk.inj (Option.some.inj h)
    exact zq_iret rfl
def fX12_journey_J21 (n : Nat) (s : zs) : Option (Int32 × zs) := some ((-1 : Int32), s)
theorem tX12_journey_J21 {n : Nat} {c : Nat × Nat} {s : zs} {r : Int32} {s' : zs} (h : fX12_journey_J21 n s = some (r, s')) : zr kX12_journey 1 12 21 [none, none, none, none] [] (zS c s) (some (.int r)) (zS c s') := by
  unfold fX12_journey_J21 at h
  refine zr_many 1 (pc' := 22) (L' := [none, none, none, none]) (st' := [.int (-1 : Int32)]) (S1 := zS c s) rfl ?_
  obtain ⟨rfl, rfl⟩ := Prod.mk.inj (Option.some.inj h)
  exact zq_iret rfl
def fX12_journey_J78 (n : Nat) (s : zs) (y1 : Int32) (y2 : Int32) : Option (Int32 × zs) := zp (fX12_flag n s y2) (fun r40 => zp (fX12_enters n s ((y1 - r40).toInt64)) (fun s44 => zp (fX12_enters n s44 ((-(s44.1 161 39)).toInt64)) (fun s47 => some ((-2 : Int32), s47))))
theorem tX12_journey_J78 {n : Nat} {c : Nat × Nat} {s : zs} {y1 : Int32} {y2 : Int32} {r : Int32} {s' : zs} (h : fX12_journey_J78 n s y1 y2 = some (r, s')) : zr kX12_journey 1 12 78 [some (.ref 161), none, none, none] [.int y2, .int y1, .ref 161] (zS c s) (some (.int r)) (zS c s') := by
  unfold fX12_journey_J78 at h
  obtain ⟨r40, g42, h⟩ := zp_inv h
  refine zq_scall1 rfl (by decide) rfl rfl ((tX12_flag g42).up (by decide)) rfl ?_
  refine zr_many 2 (pc' := 83) (L' := [some (.ref 161), none, none, none]) (st' := [.long (y1 - r40).toInt64, .ref 161]) (S1 := zS c s) rfl ?_
  obtain ⟨s44, g45, h⟩ := zp_inv h
  refine zq_call0 rfl rfl (zh_161 _) rfl rfl rfl ((tX12_enters g45).up (by decide)) rfl ?_
  refine zr_many 2 (pc' := 88) (L' := [some (.ref 161), none, none, none]) (st' := [.ref 161, .ref 161]) (S1 := zS c s44) rfl ?_
  refine zq_get rfl (zh_161 _) rfl rfl rfl ?_
  refine zr_many 2 (pc' := 93) (L' := [some (.ref 161), none, none, none]) (st' := [.long (-(s44.1 161 39)).toInt64, .ref 161]) (S1 := zS c s44) rfl ?_
  obtain ⟨s47, g48, h⟩ := zp_inv h
  refine zq_call0 rfl rfl (zh_161 _) rfl rfl rfl ((tX12_enters g48).up (by decide)) rfl ?_
  refine zr_many 1 (pc' := 98) (L' := [some (.ref 161), none, none, none]) (st' := [.int (-2 : Int32)]) (S1 := zS c s47) rfl ?_
  obtain ⟨rfl, rfl⟩ := Prod.mk.inj (Option.some.inj h)
  exact zq_iret rfl
def fX12_journey (n : Nat) (s : zs) (x1 : Int32) (x2 : Int32) : Option (Int32 × zs) := zp (fX12_isBarge n (zsi s 161 0 (0 : Int32)) x1) (fun r1 => if r1 = 0 then fX12_journey_J21 n (zsi s 161 0 (0 : Int32)) else zp (fX12_isPlace n (zsi s 161 0 (0 : Int32)) x2) (fun r5 => if ¬ r5 = 0 then zp (fX12_puts n (zsi s 161 0 (0 : Int32))) (fun s10 => zb (fX12_goesTo n s10 x1 x2) (fun r12 s13 => zp (fX12_enters n (zsi s13 161 1 (0 : Int32)) (((zsi s13 161 1 (0 : Int32)).1 161 38).toInt64)) (fun s16 => if 0 ≤ r12 then zp (fX12_enters n s16 (((s16.1 169 8) - (s16.1 170 8)).toInt64)) (fun s22 => zp (fX12_crew n s22 170 x1) (fun r24 => zp (fX12_tiredAll n s22 170 r24) (fun r27 => zp (fX12_enters n s22 r27.toInt64) (fun s31 => some (r12, s31))))) else zp (fX12_placeOf n s16 170 x1) (fun r33 => zp (fX12_placeOf n s16 170 x1) (fun r36 => if r36 ≤ x2 then fX12_journey_J78 n s16 r33 (0 : Int32) else fX12_journey_J78 n s16 r33 (1 : Int32)))))) else fX12_journey_J21 n (zsi s 161 0 (0 : Int32))))
theorem tX12_journey {n : Nat} {c : Nat × Nat} {s : zs} {x1 : Int32} {x2 : Int32} {r : Int32} {s' : zs} (h : fX12_journey n s x1 x2 = some (r, s')) : zc 13 2483 [.ref 161, .int x1, .int x2] (zS c s) (some (.int r)) (zS c s') := by
  refine zc_of (k := kX12_journey) (rt := 1) (L := [some (.ref 161), some (.int x1), some (.int x2), none]) zm_2483.1 rfl rfl (by decide) rfl rfl ?_
  unfold fX12_journey at h
  refine zr_many 2 (pc' := 2) (L' := [some (.ref 161), some (.int x1), some (.int x2), none]) (st' := [.int (0 : Int32), .ref 161]) (S1 := zS c s) rfl ?_
  refine zq_put (s' := (zsi s 161 0 (0 : Int32))) rfl (zh_161 _) rfl rfl rfl rfl zsi_ne rfl ?_
  refine zr_many 2 (pc' := 7) (L' := [some (.ref 161), some (.int x1), some (.int x2), none]) (st' := [.int x1, .ref 161]) (S1 := zS c (zsi s 161 0 (0 : Int32))) rfl ?_
  obtain ⟨r1, g3, h⟩ := zp_inv h
  refine zq_call1 rfl rfl (zh_161 _) rfl rfl rfl ((tX12_isBarge g3).up (by decide)) rfl ?_
  refine zq_if1 (b := r1 = 0) rfl Iff.rfl rfl (fun g4 => ?_) (fun g4 => ?_)
  · rw [if_pos g4] at h
    exact zr_wk [none, none, none, none] trivial (tX12_journey_J21 h)
  · rw [if_neg g4] at h
    refine zr_many 2 (pc' := 15) (L' := [some (.ref 161), some (.int x1), some (.int x2), none]) (st' := [.int x2, .ref 161]) (S1 := zS c (zsi s 161 0 (0 : Int32))) rfl ?_
    obtain ⟨r5, g7, h⟩ := zp_inv h
    refine zq_call1 rfl rfl (zh_161 _) rfl rfl rfl ((tX12_isPlace g7).up (by decide)) rfl ?_
    refine zq_if1 (b := ¬ r5 = 0) rfl Iff.rfl rfl (fun g8 => ?_) (fun g8 => ?_)
    · rw [if_pos g8] at h
      refine zr_many 1 (pc' := 24) (L' := [some (.ref 161), some (.int x1), some (.int x2), none]) (st' := [.ref 161]) (S1 := zS c (zsi s 161 0 (0 : Int32))) rfl ?_
      obtain ⟨s10, g11, h⟩ := zp_inv h
      refine zq_call0 rfl rfl (zh_161 _) rfl rfl rfl ((tX12_puts g11).up (by decide)) rfl ?_
      refine zr_many 3 (pc' := 30) (L' := [some (.ref 161), some (.int x1), some (.int x2), none]) (st' := [.int x2, .int x1, .ref 161]) (S1 := zS c s10) rfl ?_
      obtain ⟨r12, s13, g14, h⟩ := zb_inv h
      refine zq_call1 rfl rfl (zh_161 _) rfl rfl rfl (tX12_goesTo g14) rfl ?_
      refine zr_many 3 (pc' := 36) (L' := [some (.ref 161), some (.int x1), some (.int x2), some (.int r12)]) (st' := [.int (0 : Int32), .ref 161]) (S1 := zS c s13) rfl ?_
      refine zq_put (s' := (zsi s13 161 1 (0 : Int32))) rfl (zh_161 _) rfl rfl rfl rfl zsi_ne rfl ?_
      refine zr_many 2 (pc' := 41) (L' := [some (.ref 161), some (.int x1), some (.int x2), some (.int r12)]) (st' := [.ref 161, .ref 161]) (S1 := zS c (zsi s13 161 1 (0 : Int32))) rfl ?_
      refine zq_get rfl (zh_161 _) rfl rfl rfl ?_
      refine zr_many 1 (pc' := 45) (L' := [some (.ref 161), some (.int x1), some (.int x2), some (.int r12)]) (st' := [.long ((zsi s13 161 1 (0 : Int32)).1 161 38).toInt64, .ref 161]) (S1 := zS c (zsi s13 161 1 (0 : Int32))) rfl ?_
      obtain ⟨s16, g17, h⟩ := zp_inv h
      refine zq_call0 rfl rfl (zh_161 _) rfl rfl rfl ((tX12_enters g17).up (by decide)) rfl ?_
      refine zr_many 1 (pc' := 49) (L' := [some (.ref 161), some (.int x1), some (.int x2), some (.int r12)]) (st' := [.int r12]) (S1 := zS c s16) rfl ?_
      refine zq_if1 (b := 0 ≤ r12) rfl Iff.rfl rfl (fun g18 => ?_) (fun g18 => ?_)
      · rw [if_pos g18] at h
        refine zr_many 2 (pc' := 101) (L' := [some (.ref 161), some (.int x1), some (.int x2), some (.int r12)]) (st' := [.ref 161, .ref 161]) (S1 := zS c s16) rfl ?_
        refine zq_get rfl (zh_161 _) rfl rfl rfl ?_
        refine zr_many 1 (pc' := 106) (L' := [some (.ref 161), some (.int x1), some (.int x2), some (.int r12)]) (st' := [.int (8 : Int32), .ref 169, .ref 161]) (S1 := zS c s16) rfl ?_
        refine zq_ild rfl (zh_169 _) rfl (by decide) rfl ?_
        refine zr_many 1 (pc' := 108) (L' := [some (.ref 161), some (.int x1), some (.int x2), some (.int r12)]) (st' := [.ref 161, .int (s16.1 169 8), .ref 161]) (S1 := zS c s16) rfl ?_
        refine zq_get rfl (zh_161 _) rfl rfl rfl ?_
        refine zr_many 1 (pc' := 113) (L' := [some (.ref 161), some (.int x1), some (.int x2), some (.int r12)]) (st' := [.int (8 : Int32), .ref 170, .int (s16.1 169 8), .ref 161]) (S1 := zS c s16) rfl ?_
        refine zq_ild rfl (zh_170 _) rfl (by decide) rfl ?_
        refine zr_many 2 (pc' := 116) (L' := [some (.ref 161), some (.int x1), some (.int x2), some (.int r12)]) (st' := [.long ((s16.1 169 8) - (s16.1 170 8)).toInt64, .ref 161]) (S1 := zS c s16) rfl ?_
        obtain ⟨s22, g23, h⟩ := zp_inv h
        refine zq_call0 rfl rfl (zh_161 _) rfl rfl rfl ((tX12_enters g23).up (by decide)) rfl ?_
        refine zr_many 3 (pc' := 122) (L' := [some (.ref 161), some (.int x1), some (.int x2), some (.int r12)]) (st' := [.ref 161, .ref 161, .ref 161]) (S1 := zS c s22) rfl ?_
        refine zq_get rfl (zh_161 _) rfl rfl rfl ?_
        refine zr_many 2 (pc' := 127) (L' := [some (.ref 161), some (.int x1), some (.int x2), some (.int r12)]) (st' := [.ref 161, .ref 161, .ref 170, .ref 161, .ref 161]) (S1 := zS c s22) rfl ?_
        refine zq_get rfl (zh_161 _) rfl rfl rfl ?_
        refine zr_many 1 (pc' := 131) (L' := [some (.ref 161), some (.int x1), some (.int x2), some (.int r12)]) (st' := [.int x1, .ref 170, .ref 161, .ref 170, .ref 161, .ref 161]) (S1 := zS c s22) rfl ?_
        obtain ⟨r24, g26, h⟩ := zp_inv h
        refine zq_call1 rfl rfl (zh_161 _) rfl rfl rfl ((tX12_crew zR_t g26).up (by decide)) rfl ?_
        obtain ⟨r27, g29, h⟩ := zp_inv h
        refine zq_call1 rfl rfl (zh_161 _) rfl rfl rfl ((tX12_tiredAll zR_t g29).up (by decide)) rfl ?_
        refine zr_many 1 (pc' := 138) (L' := [some (.ref 161), some (.int x1), some (.int x2), some (.int r12)]) (st' := [.long r27.toInt64, .ref 161]) (S1 := zS c s22) rfl ?_
        obtain ⟨s31, g32, h⟩ := zp_inv h
        refine zq_call0 rfl rfl (zh_161 _) rfl rfl rfl ((tX12_enters g32).up (by decide)) rfl ?_
        refine zr_many 1 (pc' := 142) (L' := [some (.ref 161), some (.int x1), some (.int x2), some (.int r12)]) (st' := [.int r12]) (S1 := zS c s31) rfl ?_
        obtain ⟨rfl, rfl⟩ := Prod.mk.inj (Option.some.inj h)
        exact zq_iret rfl
      · rw [if_neg g18] at h
        refine zr_many 2 (pc' := 54) (L' := [some (.ref 161), some (.int x1), some (.int x2), some (.int r12)]) (st' := [.ref 161, .ref 161]) (S1 := zS c s16) rfl ?_
        refine zq_get rfl (zh_161 _) rfl rfl rfl ?_
        refine zr_many 1 (pc' := 58) (L' := [some (.ref 161), some (.int x1), some (.int x2), some (.int r12)]) (st' := [.int x1, .ref 170, .ref 161]) (S1 := zS c s16) rfl ?_
        obtain ⟨r33, g35, h⟩ := zp_inv h
        refine zq_scall1 rfl (by decide) rfl rfl ((tX12_placeOf zR_t g35).up (by decide)) rfl ?_
        refine zr_many 2 (pc' := 63) (L' := [some (.ref 161), some (.int x1), some (.int x2), some (.int r12)]) (st' := [.ref 161, .int x2, .int r33, .ref 161]) (S1 := zS c s16) rfl ?_
        refine zq_get rfl (zh_161 _) rfl rfl rfl ?_
        refine zr_many 1 (pc' := 67) (L' := [some (.ref 161), some (.int x1), some (.int x2), some (.int r12)]) (st' := [.int x1, .ref 170, .int x2, .int r33, .ref 161]) (S1 := zS c s16) rfl ?_
        obtain ⟨r36, g38, h⟩ := zp_inv h
        refine zq_scall1 rfl (by decide) rfl rfl ((tX12_placeOf zR_t g38).up (by decide)) rfl ?_
        refine zq_if2 (b := r36 ≤ x2) rfl Iff.rfl rfl (fun g39 => ?_) (fun g39 => ?_)
        · rw [if_pos g39] at h
          refine zr_many 1 (pc' := 78) (L' := [some (.ref 161), some (.int x1), some (.int x2), some (.int r12)]) (st' := [.int (0 : Int32), .int r33, .ref 161]) (S1 := zS c s16) rfl ?_
          exact zr_wk [some (.ref 161), none, none, none] ⟨rfl, trivial⟩ (tX12_journey_J78 h)
        · rw [if_neg g39] at h
          refine zr_many 2 (pc' := 78) (L' := [some (.ref 161), some (.int x1), some (.int x2), some (.int r12)]) (st' := [.int (1 : Int32), .int r33, .ref 161]) (S1 := zS c s16) rfl ?_
          exact zr_wk [some (.ref 161), none, none, none] ⟨rfl, trivial⟩ (tX12_journey_J78 h)
    · rw [if_neg g8] at h
      exact zr_wk [none, none, none, none] trivial (tX12_journey_J21 h)
def fX12_singsAll_J86 (n : Nat) (s : zs) (x2 : Int32) (x3 : Int32) (x5 : Int32) (x6 : Int32) (x8 : Int32) (y2 : Int32) (y3 : Int32) : Option ((Int32 × Int32 × Int32 × zs) ⊕ (Int32 × zs)) := zb (fX12_singsChord n s 169 y2 y3) (fun r14 s15 => some (Sum.inl (x6, r14, (x8 + x5), s15)))
theorem tX12_singsAll_J86 {n : Nat} {c : Nat × Nat} {s : zs} {x2 : Int32} {x3 : Int32} {x5 : Int32} {x6 : Int32} {x8 : Int32} {y2 : Int32} {y3 : Int32} {o : _} {v : Option Value} {S' : zi_S} (h : fX12_singsAll_J86 n s x2 x3 x5 x6 x8 y2 y3 = some o) (hn : ∀ w41, o = Sum.inl w41 → zr kX12_singsAll 2 9 41 [some (.ref 161), none, some (.int x2), some (.int x3), none, some (.int x5), some (.int w41.1), some (.int w41.2.1), some (.int w41.2.2.1)] [] (zS c w41.2.2.2) v S') (hx : ∀ z, o = Sum.inr z → (fun z => zr kX12_singsAll 2 9 101 [none, none, none, none, none, none, none, some (.int z.1), none] [] (zS c z.2) v S') z) : zr kX12_singsAll 2 9 86 [some (.ref 161), none, some (.int x2), some (.int x3), none, some (.int x5), some (.int x6), none, some (.int x8)] [.int y3, .int y2, .ref 169, .ref 161] (zS c s) v S' := by
  unfold fX12_singsAll_J86 at h
  obtain ⟨r14, s15, g16, h⟩ := zb_inv h
  refine zq_call1 rfl rfl (zh_161 _) rfl rfl rfl (tX12_singsChord zR_n g16) rfl ?_
  refine zr_many 6 (pc' := 41) (L' := [some (.ref 161), none, some (.int x2), some (.int x3), none, some (.int x5), some (.int x6), some (.int r14), some (.int (x8 + x5))]) (st' := []) (S1 := zS c s15) rfl ?_
  obtain rfl := Option.some.inj h
  exact zr_wk [some (.ref 161), none, some (.int x2), some (.int x3), none, some (.int x5), some (.int x6), some (.int r14), some (.int (x8 + x5))] ⟨rfl, rfl, rfl, rfl, rfl, rfl, rfl, trivial⟩ (hn (x6, r14, (x8 + x5), s15) rfl)
def fX12_singsAll_B41 (n : Nat) (x2 : Int32) (x3 : Int32) (x5 : Int32) (w41 : Int32 × Int32 × Int32 × zs) : Option ((Int32 × Int32 × Int32 × zs) ⊕ (Int32 × zs)) := if w41.2.2.1 = x2 then some (Sum.inr (w41.2.1, w41.2.2.2)) else if w41.2.1 = 0 then some (Sum.inr (w41.2.1, w41.2.2.2)) else zp (fX12_freeAt n w41.2.2.2 w41.2.2.1) (fun r10 => if x5 ≤ 0 then fX12_singsAll_J86 n w41.2.2.2 x2 x3 x5 (w41.1 ||| (x3 &&& r10)) w41.2.2.1 (w41.1 ||| (x3 &&& r10)) (w41.2.2.1 - (1 : Int32)) else fX12_singsAll_J86 n w41.2.2.2 x2 x3 x5 (w41.1 ||| (x3 &&& r10)) w41.2.2.1 (w41.1 ||| (x3 &&& r10)) w41.2.2.1)
theorem tX12_singsAll_B41 {n : Nat} {c : Nat × Nat} {x2 : Int32} {x3 : Int32} {x5 : Int32} {w41 : Int32 × Int32 × Int32 × zs} {o : _} {v : Option Value} {S' : zi_S} (h : fX12_singsAll_B41 n x2 x3 x5 w41 = some o) (hn : ∀ w41, o = Sum.inl w41 → zr kX12_singsAll 2 9 41 [some (.ref 161), none, some (.int x2), some (.int x3), none, some (.int x5), some (.int w41.1), some (.int w41.2.1), some (.int w41.2.2.1)] [] (zS c w41.2.2.2) v S') (hx : ∀ z, o = Sum.inr z → (fun z => zr kX12_singsAll 2 9 101 [none, none, none, none, none, none, none, some (.int z.1), none] [] (zS c z.2) v S') z) : zr kX12_singsAll 2 9 41 [some (.ref 161), none, some (.int x2), some (.int x3), none, some (.int x5), some (.int w41.1), some (.int w41.2.1), some (.int w41.2.2.1)] [] (zS c w41.2.2.2) v S' := by
  unfold fX12_singsAll_B41 at h
  refine zr_many 2 (pc' := 44) (L' := [some (.ref 161), none, some (.int x2), some (.int x3), none, some (.int x5), some (.int w41.1), some (.int w41.2.1), some (.int w41.2.2.1)]) (st' := [.int x2, .int w41.2.2.1]) (S1 := zS c w41.2.2.2) rfl ?_
  refine zq_if2 (b := w41.2.2.1 = x2) rfl Iff.rfl rfl (fun g8 => ?_) (fun g8 => ?_)
  · rw [if_pos g8] at h
    obtain rfl := Option.some.inj h
    exact zr_wk [none, none, none, none, none, none, none, some (.int w41.2.1), none] ⟨rfl, trivial⟩ (hx (w41.2.1, w41.2.2.2) rfl)
  · rw [if_neg g8] at h
    refine zr_many 1 (pc' := 49) (L' := [some (.ref 161), none, some (.int x2), some (.int x3), none, some (.int x5), some (.int w41.1), some (.int w41.2.1), some (.int w41.2.2.1)]) (st' := [.int w41.2.1]) (S1 := zS c w41.2.2.2) rfl ?_
    refine zq_if1 (b := w41.2.1 = 0) rfl Iff.rfl rfl (fun g9 => ?_) (fun g9 => ?_)
    · rw [if_pos g9] at h
      obtain rfl := Option.some.inj h
      exact zr_wk [none, none, none, none, none, none, none, some (.int w41.2.1), none] ⟨rfl, trivial⟩ (hx (w41.2.1, w41.2.2.2) rfl)
    · rw [if_neg g9] at h
      refine zr_many 4 (pc' := 58) (L' := [some (.ref 161), none, some (.int x2), some (.int x3), none, some (.int x5), some (.int w41.1), some (.int w41.2.1), some (.int w41.2.2.1)]) (st' := [.int w41.2.2.1, .ref 161, .int x3, .int w41.1]) (S1 := zS c w41.2.2.2) rfl ?_
      obtain ⟨r10, g12, h⟩ := zp_inv h
      refine zq_call1 rfl rfl (zh_161 _) rfl rfl rfl ((tX12_freeAt g12).up (by decide)) rfl ?_
      refine zr_many 5 (pc' := 67) (L' := [some (.ref 161), none, some (.int x2), some (.int x3), none, some (.int x5), some (.int (w41.1 ||| (x3 &&& r10))), some (.int w41.2.1), some (.int w41.2.2.1)]) (st' := [.ref 161, .ref 161]) (S1 := zS c w41.2.2.2) rfl ?_
      refine zq_get rfl (zh_161 _) rfl rfl rfl ?_
      refine zr_many 2 (pc' := 74) (L' := [some (.ref 161), none, some (.int x2), some (.int x3), none, some (.int x5), some (.int (w41.1 ||| (x3 &&& r10))), some (.int w41.2.1), some (.int w41.2.2.1)]) (st' := [.int x5, .int (w41.1 ||| (x3 &&& r10)), .ref 169, .ref 161]) (S1 := zS c w41.2.2.2) rfl ?_
      refine zq_if1 (b := x5 ≤ 0) rfl Iff.rfl rfl (fun g13 => ?_) (fun g13 => ?_)
      · rw [if_pos g13] at h
        refine zr_many 3 (pc' := 86) (L' := [some (.ref 161), none, some (.int x2), some (.int x3), none, some (.int x5), some (.int (w41.1 ||| (x3 &&& r10))), some (.int w41.2.1), some (.int w41.2.2.1)]) (st' := [.int (w41.2.2.1 - (1 : Int32)), .int (w41.1 ||| (x3 &&& r10)), .ref 169, .ref 161]) (S1 := zS c w41.2.2.2) rfl ?_
        exact zr_wk [some (.ref 161), none, some (.int x2), some (.int x3), none, some (.int x5), some (.int (w41.1 ||| (x3 &&& r10))), none, some (.int w41.2.2.1)] ⟨rfl, rfl, rfl, rfl, rfl, rfl, trivial⟩ (tX12_singsAll_J86 h hn hx)
      · rw [if_neg g13] at h
        refine zr_many 2 (pc' := 86) (L' := [some (.ref 161), none, some (.int x2), some (.int x3), none, some (.int x5), some (.int (w41.1 ||| (x3 &&& r10))), some (.int w41.2.1), some (.int w41.2.2.1)]) (st' := [.int w41.2.2.1, .int (w41.1 ||| (x3 &&& r10)), .ref 169, .ref 161]) (S1 := zS c w41.2.2.2) rfl ?_
        exact zr_wk [some (.ref 161), none, some (.int x2), some (.int x3), none, some (.int x5), some (.int (w41.1 ||| (x3 &&& r10))), none, some (.int w41.2.2.1)] ⟨rfl, rfl, rfl, rfl, rfl, rfl, trivial⟩ (tX12_singsAll_J86 h hn hx)
def fX12_singsAll_J101 (n : Nat) (s : zs) (x7 : Int32) : Option (Int32 × zs) := if x7 = 0 ∨ x7 = 1 then some (x7, s) else none
theorem tX12_singsAll_J101 {n : Nat} {c : Nat × Nat} {s : zs} {x7 : Int32} {r : Int32} {s' : zs} (h : fX12_singsAll_J101 n s x7 = some (r, s')) : zr kX12_singsAll 2 9 101 [none, none, none, none, none, none, none, some (.int x7), none] [] (zS c s) (some (.int r)) (zS c s') := by
  unfold fX12_singsAll_J101 at h
  refine zr_many 1 (pc' := 103) (L' := [none, none, none, none, none, none, none, some (.int x7), none]) (st' := [.int x7]) (S1 := zS c s) rfl ?_
  obtain ⟨gz, h⟩ := zt_inv h
  obtain ⟨rfl, rfl⟩ := Prod.mk.inj (Option.some.inj h)
  exact zq_zret rfl gz
def fX12_singsAll_J21 (n : Nat) (s : zs) (x1 : Int32) (x2 : Int32) (x3 : Int32) (x4 : Int32) (y0 : Int32) : Option (Int32 × zs) := zp (fX12_crew n s 169 x1) (fun r5 => zp (zl (fX12_singsAll_B41 n x2 x3 y0) n (r5, (1 : Int32), x4, s)) (fun w17 => fX12_singsAll_J101 n w17.2 w17.1))
theorem tX12_singsAll_J21 {n : Nat} {c : Nat × Nat} {s : zs} {x1 : Int32} {x2 : Int32} {x3 : Int32} {x4 : Int32} {y0 : Int32} {r : Int32} {s' : zs} (h : fX12_singsAll_J21 n s x1 x2 x3 x4 y0 = some (r, s')) : zr kX12_singsAll 2 9 21 [some (.ref 161), some (.int x1), some (.int x2), some (.int x3), some (.int x4), none, none, none, none] [.int y0] (zS c s) (some (.int r)) (zS c s') := by
  unfold fX12_singsAll_J21 at h
  refine zr_many 3 (pc' := 25) (L' := [some (.ref 161), some (.int x1), some (.int x2), some (.int x3), some (.int x4), some (.int y0), none, none, none]) (st' := [.ref 161, .ref 161]) (S1 := zS c s) rfl ?_
  refine zq_get rfl (zh_161 _) rfl rfl rfl ?_
  refine zr_many 1 (pc' := 29) (L' := [some (.ref 161), some (.int x1), some (.int x2), some (.int x3), some (.int x4), some (.int y0), none, none, none]) (st' := [.int x1, .ref 169, .ref 161]) (S1 := zS c s) rfl ?_
  obtain ⟨r5, g7, h⟩ := zp_inv h
  refine zq_call1 rfl rfl (zh_161 _) rfl rfl rfl ((tX12_crew zR_n g7).up (by decide)) rfl ?_
  refine zr_many 5 (pc' := 41) (L' := [some (.ref 161), some (.int x1), some (.int x2), some (.int x3), some (.int x4), some (.int y0), some (.int r5), some (.int (1 : Int32)), some (.int x4)]) (st' := []) (S1 := zS c s) rfl ?_
  obtain ⟨w17, g18, h⟩ := zp_inv h
  refine zr_wk [some (.ref 161), none, some (.int x2), some (.int x3), none, some (.int y0), some (.int r5), some (.int (1 : Int32)), some (.int x4)] ⟨rfl, rfl, rfl, rfl, rfl, rfl, rfl, trivial⟩ (zl_cert (Z := fun w41 => zr kX12_singsAll 2 9 41 [some (.ref 161), none, some (.int x2), some (.int x3), none, some (.int y0), some (.int w41.1), some (.int w41.2.1), some (.int w41.2.2.1)] [] (zS c w41.2.2.2) _ _) (Y := (fun z => zr kX12_singsAll 2 9 101 [none, none, none, none, none, none, none, some (.int z.1), none] [] (zS c z.2) _ _)) (fun w o h1 h2 h3 => tX12_singsAll_B41 h1 h2 h3) n _ _ g18 ?_)
  show zr kX12_singsAll 2 9 101 [none, none, none, none, none, none, none, some (.int w17.1), none] [] (zS c w17.2) _ _
  exact zr_wk [none, none, none, none, none, none, none, some (.int w17.1), none] ⟨rfl, trivial⟩ (tX12_singsAll_J101 h)
def fX12_singsAll (n : Nat) (s : zs) (x1 : Int32) (x2 : Int32) (x3 : Int32) : Option (Int32 × zs) := zp (fX12_placeOf n s 169 x1) (fun r1 => if x2 ≤ r1 then fX12_singsAll_J21 n s x1 x2 x3 r1 (-1 : Int32) else fX12_singsAll_J21 n s x1 x2 x3 r1 (1 : Int32))
theorem tX12_singsAll {n : Nat} {c : Nat × Nat} {s : zs} {x1 : Int32} {x2 : Int32} {x3 : Int32} {r : Int32} {s' : zs} (h : fX12_singsAll n s x1 x2 x3 = some (r, s')) : zc 10 2484 [.ref 161, .int x1, .int x2, .int x3] (zS c s) (some (.int r)) (zS c s') := by
  refine zc_of (k := kX12_singsAll) (rt := 2) (L := [some (.ref 161), some (.int x1), some (.int x2), some (.int x3), none, none, none, none, none]) zm_2484.1 rfl rfl (by decide) rfl rfl ?_
  unfold fX12_singsAll at h
  refine zr_many 1 (pc' := 1) (L' := [some (.ref 161), some (.int x1), some (.int x2), some (.int x3), none, none, none, none, none]) (st' := [.ref 161]) (S1 := zS c s) rfl ?_
  refine zq_get rfl (zh_161 _) rfl rfl rfl ?_
  refine zr_many 1 (pc' := 5) (L' := [some (.ref 161), some (.int x1), some (.int x2), some (.int x3), none, none, none, none, none]) (st' := [.int x1, .ref 169]) (S1 := zS c s) rfl ?_
  obtain ⟨r1, g3, h⟩ := zp_inv h
  refine zq_scall1 rfl (by decide) rfl rfl ((tX12_placeOf zR_n g3).up (by decide)) rfl ?_
  refine zr_many 3 (pc' := 13) (L' := [some (.ref 161), some (.int x1), some (.int x2), some (.int x3), some (.int r1), none, none, none, none]) (st' := [.int r1, .int x2]) (S1 := zS c s) rfl ?_
  refine zq_if2 (b := x2 ≤ r1) rfl Iff.rfl rfl (fun g4 => ?_) (fun g4 => ?_)
  · rw [if_pos g4] at h
    refine zr_many 1 (pc' := 21) (L' := [some (.ref 161), some (.int x1), some (.int x2), some (.int x3), some (.int r1), none, none, none, none]) (st' := [.int (-1 : Int32)]) (S1 := zS c s) rfl ?_
    exact zr_wk [some (.ref 161), some (.int x1), some (.int x2), some (.int x3), some (.int r1), none, none, none, none] ⟨rfl, rfl, rfl, rfl, rfl, trivial⟩ (tX12_singsAll_J21 h)
  · rw [if_neg g4] at h
    refine zr_many 2 (pc' := 21) (L' := [some (.ref 161), some (.int x1), some (.int x2), some (.int x3), some (.int r1), none, none, none, none]) (st' := [.int (1 : Int32)]) (S1 := zS c s) rfl ?_
    exact zr_wk [some (.ref 161), some (.int x1), some (.int x2), some (.int x3), some (.int r1), none, none, none, none] ⟨rfl, rfl, rfl, rfl, rfl, trivial⟩ (tX12_singsAll_J21 h)
def fX12_hires_J21 (n : Nat) (s : zs) : Option (Int32 × zs) := some ((-1 : Int32), s)
theorem tX12_hires_J21 {n : Nat} {c : Nat × Nat} {s : zs} {r : Int32} {s' : zs} (h : fX12_hires_J21 n s = some (r, s')) : zr kX12_hires 1 10 21 [none, none, none, none, none, none, none] [] (zS c s) (some (.int r)) (zS c s') := by
  unfold fX12_hires_J21 at h
  refine zr_many 1 (pc' := 22) (L' := [none, none, none, none, none, none, none]) (st' := [.int (-1 : Int32)]) (S1 := zS c s) rfl ?_
  obtain ⟨rfl, rfl⟩ := Prod.mk.inj (Option.some.inj h)
  exact zq_iret rfl
def fX12_hires_J70 (n : Nat) (s : zs) (x1 : Int32) (x2 : Int32) (x3 : Int32) (x5 : Int32) (y0 : Int32) (y1 : Int32) : Option ((Int32 × Int32) ⊕ (Int32)) := some (Sum.inl ((y0 ||| y1), (x5 + (1 : Int32))))
theorem tX12_hires_J70 {n : Nat} {c : Nat × Nat} {s : zs} {x1 : Int32} {x2 : Int32} {x3 : Int32} {x5 : Int32} {y0 : Int32} {y1 : Int32} {o : _} {v : Option Value} {S' : zi_S} (h : fX12_hires_J70 n s x1 x2 x3 x5 y0 y1 = some o) (hn : ∀ w42, o = Sum.inl w42 → zr kX12_hires 1 10 42 [some (.ref 161), some (.int x1), some (.int x2), some (.int x3), some (.int w42.1), some (.int w42.2), none] [] (zS c s) v S') (hx : ∀ z, o = Sum.inr z → (fun z => zr kX12_hires 1 10 79 [some (.ref 161), some (.int x1), some (.int x2), none, some (.int z), none, none] [] (zS c s) v S') z) : zr kX12_hires 1 10 70 [some (.ref 161), some (.int x1), some (.int x2), some (.int x3), none, some (.int x5), none] [.int y1, .int y0] (zS c s) v S' := by
  unfold fX12_hires_J70 at h
  refine zr_many 4 (pc' := 42) (L' := [some (.ref 161), some (.int x1), some (.int x2), some (.int x3), some (.int (y0 ||| y1)), some (.int (x5 + (1 : Int32))), none]) (st' := []) (S1 := zS c s) rfl ?_
  obtain rfl := Option.some.inj h
  exact zr_wk [some (.ref 161), some (.int x1), some (.int x2), some (.int x3), some (.int (y0 ||| y1)), some (.int (x5 + (1 : Int32))), none] ⟨rfl, rfl, rfl, rfl, rfl, rfl, trivial⟩ (hn ((y0 ||| y1), (x5 + (1 : Int32))) rfl)
def fX12_hires_B42 (n : Nat) (s : zs) (x1 : Int32) (x2 : Int32) (x3 : Int32) (w42 : Int32 × Int32) : Option ((Int32 × Int32) ⊕ (Int32)) := if (if x3 < x2 then x2 else x3) < w42.2 then some (Sum.inr w42.1) else if ¬ w42.2 = x2 then zp (fX12_freeAt n s w42.2) (fun r14 => fX12_hires_J70 n s x1 x2 x3 w42.2 w42.1 r14) else fX12_hires_J70 n s x1 x2 x3 w42.2 w42.1 (0 : Int32)
theorem tX12_hires_B42 {n : Nat} {c : Nat × Nat} {s : zs} {x1 : Int32} {x2 : Int32} {x3 : Int32} {w42 : Int32 × Int32} {o : _} {v : Option Value} {S' : zi_S} (h : fX12_hires_B42 n s x1 x2 x3 w42 = some o) (hn : ∀ w42, o = Sum.inl w42 → zr kX12_hires 1 10 42 [some (.ref 161), some (.int x1), some (.int x2), some (.int x3), some (.int w42.1), some (.int w42.2), none] [] (zS c s) v S') (hx : ∀ z, o = Sum.inr z → (fun z => zr kX12_hires 1 10 79 [some (.ref 161), some (.int x1), some (.int x2), none, some (.int z), none, none] [] (zS c s) v S') z) : zr kX12_hires 1 10 42 [some (.ref 161), some (.int x1), some (.int x2), some (.int x3), some (.int w42.1), some (.int w42.2), none] [] (zS c s) v S' := by
  unfold fX12_hires_B42 at h
  refine zr_many 4 (pc' := 49) (L' := [some (.ref 161), some (.int x1), some (.int x2), some (.int x3), some (.int w42.1), some (.int w42.2), none]) (st' := [.int (if x3 < x2 then x2 else x3), .int w42.2]) (S1 := zS c s) rfl ?_
  refine zq_if2 (b := (if x3 < x2 then x2 else x3) < w42.2) rfl Iff.rfl rfl (fun g12 => ?_) (fun g12 => ?_)
  · rw [if_pos g12] at h
    obtain rfl := Option.some.inj h
    exact zr_wk [some (.ref 161), some (.int x1), some (.int x2), none, some (.int w42.1), none, none] ⟨rfl, rfl, rfl, rfl, trivial⟩ (hx w42.1 rfl)
  · rw [if_neg g12] at h
    refine zr_many 3 (pc' := 57) (L' := [some (.ref 161), some (.int x1), some (.int x2), some (.int x3), some (.int w42.1), some (.int w42.2), none]) (st' := [.int x2, .int w42.2, .int w42.1]) (S1 := zS c s) rfl ?_
    refine zq_if2 (b := ¬ w42.2 = x2) rfl Iff.rfl rfl (fun g13 => ?_) (fun g13 => ?_)
    · rw [if_pos g13] at h
      refine zr_many 2 (pc' := 67) (L' := [some (.ref 161), some (.int x1), some (.int x2), some (.int x3), some (.int w42.1), some (.int w42.2), none]) (st' := [.int w42.2, .ref 161, .int w42.1]) (S1 := zS c s) rfl ?_
      obtain ⟨r14, g16, h⟩ := zp_inv h
      refine zq_call1 rfl rfl (zh_161 _) rfl rfl rfl ((tX12_freeAt g16).up (by decide)) rfl ?_
      exact zr_wk [some (.ref 161), some (.int x1), some (.int x2), some (.int x3), none, some (.int w42.2), none] ⟨rfl, rfl, rfl, rfl, rfl, trivial⟩ (tX12_hires_J70 h hn hx)
    · rw [if_neg g13] at h
      refine zr_many 2 (pc' := 70) (L' := [some (.ref 161), some (.int x1), some (.int x2), some (.int x3), some (.int w42.1), some (.int w42.2), none]) (st' := [.int (0 : Int32), .int w42.1]) (S1 := zS c s) rfl ?_
      exact zr_wk [some (.ref 161), some (.int x1), some (.int x2), some (.int x3), none, some (.int w42.2), none] ⟨rfl, rfl, rfl, rfl, rfl, trivial⟩ (tX12_hires_J70 h hn hx)
def fX12_hires_J132 (n : Nat) (s : zs) (x1 : Int32) (x2 : Int32) (x4 : Int32) (x6 : Int32) (y0 : Int32) : Option ((Int32 × Int32 × zs) ⊕ (Int32 × zs)) := some (Sum.inl (y0, (x6 + (1 : Int32)), s))
theorem tX12_hires_J132 {n : Nat} {c : Nat × Nat} {s : zs} {x1 : Int32} {x2 : Int32} {x4 : Int32} {x6 : Int32} {y0 : Int32} {o : _} {v : Option Value} {S' : zi_S} (h : fX12_hires_J132 n s x1 x2 x4 x6 y0 = some o) (hn : ∀ w86, o = Sum.inl w86 → zr kX12_hires 1 10 86 [some (.ref 161), some (.int x1), some (.int x2), none, some (.int x4), some (.int w86.1), some (.int w86.2.1)] [] (zS c w86.2.2) v S') (hx : ∀ z, o = Sum.inr z → (fun z => zr kX12_hires 1 10 140 [some (.ref 161), none, none, none, none, some (.int z.1), none] [] (zS c z.2) v S') z) : zr kX12_hires 1 10 132 [some (.ref 161), some (.int x1), some (.int x2), none, some (.int x4), none, some (.int x6)] [.int y0] (zS c s) v S' := by
  unfold fX12_hires_J132 at h
  refine zr_many 3 (pc' := 86) (L' := [some (.ref 161), some (.int x1), some (.int x2), none, some (.int x4), some (.int y0), some (.int (x6 + (1 : Int32)))]) (st' := []) (S1 := zS c s) rfl ?_
  obtain rfl := Option.some.inj h
  exact zr_wk [some (.ref 161), some (.int x1), some (.int x2), none, some (.int x4), some (.int y0), some (.int (x6 + (1 : Int32)))] ⟨rfl, rfl, rfl, rfl, rfl, rfl, trivial⟩ (hn (y0, (x6 + (1 : Int32)), s) rfl)
def fX12_hires_J130 (n : Nat) (s : zs) (x1 : Int32) (x2 : Int32) (x4 : Int32) (x5 : Int32) (x6 : Int32) : Option ((Int32 × Int32 × zs) ⊕ (Int32 × zs)) := fX12_hires_J132 n s x1 x2 x4 x6 x5
theorem tX12_hires_J130 {n : Nat} {c : Nat × Nat} {s : zs} {x1 : Int32} {x2 : Int32} {x4 : Int32} {x5 : Int32} {x6 : Int32} {o : _} {v : Option Value} {S' : zi_S} (h : fX12_hires_J130 n s x1 x2 x4 x5 x6 = some o) (hn : ∀ w86, o = Sum.inl w86 → zr kX12_hires 1 10 86 [some (.ref 161), some (.int x1), some (.int x2), none, some (.int x4), some (.int w86.1), some (.int w86.2.1)] [] (zS c w86.2.2) v S') (hx : ∀ z, o = Sum.inr z → (fun z => zr kX12_hires 1 10 140 [some (.ref 161), none, none, none, none, some (.int z.1), none] [] (zS c z.2) v S') z) : zr kX12_hires 1 10 130 [some (.ref 161), some (.int x1), some (.int x2), none, some (.int x4), some (.int x5), some (.int x6)] [] (zS c s) v S' := by
  unfold fX12_hires_J130 at h
  refine zr_many 1 (pc' := 132) (L' := [some (.ref 161), some (.int x1), some (.int x2), none, some (.int x4), some (.int x5), some (.int x6)]) (st' := [.int x5]) (S1 := zS c s) rfl ?_
  exact zr_wk [some (.ref 161), some (.int x1), some (.int x2), none, some (.int x4), none, some (.int x6)] ⟨rfl, rfl, rfl, rfl, rfl, trivial⟩ (tX12_hires_J132 h hn hx)
def fX12_hires_B86 (n : Nat) (x1 : Int32) (x2 : Int32) (x4 : Int32) (w86 : Int32 × Int32 × zs) : Option ((Int32 × Int32 × zs) ⊕ (Int32 × zs)) := if x4 < w86.2.1 then some (Sum.inr (w86.1, w86.2.2)) else if ¬ (w86.2.1 &&& (x4 ^^^ (-1 : Int32))) = 0 then fX12_hires_J130 n w86.2.2 x1 x2 x4 w86.1 w86.2.1 else zp (fX12_isCheaper n w86.2.2 w86.2.1 w86.1) (fun r20 => if r20 = 0 then fX12_hires_J130 n w86.2.2 x1 x2 x4 w86.1 w86.2.1 else zb (fX12_singsAll n w86.2.2 x1 x2 w86.2.1) (fun r24 s25 => if r24 = 0 then fX12_hires_J130 n s25 x1 x2 x4 w86.1 w86.2.1 else fX12_hires_J132 n s25 x1 x2 x4 w86.2.1 w86.2.1))
theorem tX12_hires_B86 {n : Nat} {c : Nat × Nat} {x1 : Int32} {x2 : Int32} {x4 : Int32} {w86 : Int32 × Int32 × zs} {o : _} {v : Option Value} {S' : zi_S} (h : fX12_hires_B86 n x1 x2 x4 w86 = some o) (hn : ∀ w86, o = Sum.inl w86 → zr kX12_hires 1 10 86 [some (.ref 161), some (.int x1), some (.int x2), none, some (.int x4), some (.int w86.1), some (.int w86.2.1)] [] (zS c w86.2.2) v S') (hx : ∀ z, o = Sum.inr z → (fun z => zr kX12_hires 1 10 140 [some (.ref 161), none, none, none, none, some (.int z.1), none] [] (zS c z.2) v S') z) : zr kX12_hires 1 10 86 [some (.ref 161), some (.int x1), some (.int x2), none, some (.int x4), some (.int w86.1), some (.int w86.2.1)] [] (zS c w86.2.2) v S' := by
  unfold fX12_hires_B86 at h
  refine zr_many 2 (pc' := 90) (L' := [some (.ref 161), some (.int x1), some (.int x2), none, some (.int x4), some (.int w86.1), some (.int w86.2.1)]) (st' := [.int x4, .int w86.2.1]) (S1 := zS c w86.2.2) rfl ?_
  refine zq_if2 (b := x4 < w86.2.1) rfl Iff.rfl rfl (fun g18 => ?_) (fun g18 => ?_)
  · rw [if_pos g18] at h
    obtain rfl := Option.some.inj h
    exact zr_wk [some (.ref 161), none, none, none, none, some (.int w86.1), none] ⟨rfl, rfl, trivial⟩ (hx (w86.1, w86.2.2) rfl)
  · rw [if_neg g18] at h
    refine zr_many 5 (pc' := 100) (L' := [some (.ref 161), some (.int x1), some (.int x2), none, some (.int x4), some (.int w86.1), some (.int w86.2.1)]) (st' := [.int (w86.2.1 &&& (x4 ^^^ (-1 : Int32)))]) (S1 := zS c w86.2.2) rfl ?_
    refine zq_if1 (b := ¬ (w86.2.1 &&& (x4 ^^^ (-1 : Int32))) = 0) rfl Iff.rfl rfl (fun g19 => ?_) (fun g19 => ?_)
    · rw [if_pos g19] at h
      exact zr_wk [some (.ref 161), some (.int x1), some (.int x2), none, some (.int x4), some (.int w86.1), some (.int w86.2.1)] ⟨rfl, rfl, rfl, rfl, rfl, rfl, trivial⟩ (tX12_hires_J130 h hn hx)
    · rw [if_neg g19] at h
      refine zr_many 3 (pc' := 108) (L' := [some (.ref 161), some (.int x1), some (.int x2), none, some (.int x4), some (.int w86.1), some (.int w86.2.1)]) (st' := [.int w86.1, .int w86.2.1, .ref 161]) (S1 := zS c w86.2.2) rfl ?_
      obtain ⟨r20, g22, h⟩ := zp_inv h
      refine zq_call1 rfl rfl (zh_161 _) rfl rfl rfl ((tX12_isCheaper g22).up (by decide)) rfl ?_
      refine zq_if1 (b := r20 = 0) rfl Iff.rfl rfl (fun g23 => ?_) (fun g23 => ?_)
      · rw [if_pos g23] at h
        exact zr_wk [some (.ref 161), some (.int x1), some (.int x2), none, some (.int x4), some (.int w86.1), some (.int w86.2.1)] ⟨rfl, rfl, rfl, rfl, rfl, rfl, trivial⟩ (tX12_hires_J130 h hn hx)
      · rw [if_neg g23] at h
        refine zr_many 4 (pc' := 119) (L' := [some (.ref 161), some (.int x1), some (.int x2), none, some (.int x4), some (.int w86.1), some (.int w86.2.1)]) (st' := [.int w86.2.1, .int x2, .int x1, .ref 161]) (S1 := zS c w86.2.2) rfl ?_
        obtain ⟨r24, s25, g26, h⟩ := zb_inv h
        refine zq_call1 rfl rfl (zh_161 _) rfl rfl rfl (tX12_singsAll g26) rfl ?_
        refine zq_if1 (b := r24 = 0) rfl Iff.rfl rfl (fun g27 => ?_) (fun g27 => ?_)
        · rw [if_pos g27] at h
          exact zr_wk [some (.ref 161), some (.int x1), some (.int x2), none, some (.int x4), some (.int w86.1), some (.int w86.2.1)] ⟨rfl, rfl, rfl, rfl, rfl, rfl, trivial⟩ (tX12_hires_J130 h hn hx)
        · rw [if_neg g27] at h
          refine zr_many 2 (pc' := 132) (L' := [some (.ref 161), some (.int x1), some (.int x2), none, some (.int x4), some (.int w86.1), some (.int w86.2.1)]) (st' := [.int w86.2.1]) (S1 := zS c s25) rfl ?_
          exact zr_wk [some (.ref 161), some (.int x1), some (.int x2), none, some (.int x4), none, some (.int w86.2.1)] ⟨rfl, rfl, rfl, rfl, rfl, trivial⟩ (tX12_hires_J132 h hn hx)
def fX12_hires_J161 (n : Nat) (s : zs) (x5 : Int32) : Option (Int32 × zs) := some (x5, s)
theorem tX12_hires_J161 {n : Nat} {c : Nat × Nat} {s : zs} {x5 : Int32} {r : Int32} {s' : zs} (h : fX12_hires_J161 n s x5 = some (r, s')) : zr kX12_hires 1 10 161 [none, none, none, none, none, some (.int x5), none] [] (zS c s) (some (.int r)) (zS c s') := by
  unfold fX12_hires_J161 at h
  refine zr_many 1 (pc' := 163) (L' := [none, none, none, none, none, some (.int x5), none]) (st' := [.int x5]) (S1 := zS c s) rfl ?_
  obtain ⟨rfl, rfl⟩ := Prod.mk.inj (Option.some.inj h)
  exact zq_iret rfl
def fX12_hires (n : Nat) (s : zs) (x1 : Int32) (x2 : Int32) : Option (Int32 × zs) := zp (fX12_isBarge n (zsi s 161 0 (0 : Int32)) x1) (fun r1 => if r1 = 0 then fX12_hires_J21 n (zsi s 161 0 (0 : Int32)) else zp (fX12_isPlace n (zsi s 161 0 (0 : Int32)) x2) (fun r5 => if ¬ r5 = 0 then zp (fX12_placeOf n (zsi s 161 0 (0 : Int32)) 169 x1) (fun r9 => zp (zl (fX12_hires_B42 n (zsi s 161 0 (0 : Int32)) x1 x2 r9) n ((0 : Int32), (if x2 < r9 then x2 else r9))) (fun w17 => zp (zl (fX12_hires_B86 n x1 x2 w17) n ((-2 : Int32), (0 : Int32), (zsi s 161 0 (0 : Int32)))) (fun w28 => if w28.1 < 0 then fX12_hires_J161 n w28.2 w28.1 else zp (fX12_fees n (zsi w28.2 161 1 (0 : Int32)) w28.1) (fun r30 => zp (fX12_enters n (zsi w28.2 161 1 (0 : Int32)) r30.toInt64) (fun s34 => fX12_hires_J161 n s34 w28.1))))) else fX12_hires_J21 n (zsi s 161 0 (0 : Int32))))
theorem tX12_hires {n : Nat} {c : Nat × Nat} {s : zs} {x1 : Int32} {x2 : Int32} {r : Int32} {s' : zs} (h : fX12_hires n s x1 x2 = some (r, s')) : zc 11 2485 [.ref 161, .int x1, .int x2] (zS c s) (some (.int r)) (zS c s') := by
  refine zc_of (k := kX12_hires) (rt := 1) (L := [some (.ref 161), some (.int x1), some (.int x2), none, none, none, none]) zm_2485.1 rfl rfl (by decide) rfl rfl ?_
  unfold fX12_hires at h
  refine zr_many 2 (pc' := 2) (L' := [some (.ref 161), some (.int x1), some (.int x2), none, none, none, none]) (st' := [.int (0 : Int32), .ref 161]) (S1 := zS c s) rfl ?_
  refine zq_put (s' := (zsi s 161 0 (0 : Int32))) rfl (zh_161 _) rfl rfl rfl rfl zsi_ne rfl ?_
  refine zr_many 2 (pc' := 7) (L' := [some (.ref 161), some (.int x1), some (.int x2), none, none, none, none]) (st' := [.int x1, .ref 161]) (S1 := zS c (zsi s 161 0 (0 : Int32))) rfl ?_
  obtain ⟨r1, g3, h⟩ := zp_inv h
  refine zq_call1 rfl rfl (zh_161 _) rfl rfl rfl ((tX12_isBarge g3).up (by decide)) rfl ?_
  refine zq_if1 (b := r1 = 0) rfl Iff.rfl rfl (fun g4 => ?_) (fun g4 => ?_)
  · rw [if_pos g4] at h
    exact zr_wk [none, none, none, none, none, none, none] trivial (tX12_hires_J21 h)
  · rw [if_neg g4] at h
    refine zr_many 2 (pc' := 15) (L' := [some (.ref 161), some (.int x1), some (.int x2), none, none, none, none]) (st' := [.int x2, .ref 161]) (S1 := zS c (zsi s 161 0 (0 : Int32))) rfl ?_
    obtain ⟨r5, g7, h⟩ := zp_inv h
    refine zq_call1 rfl rfl (zh_161 _) rfl rfl rfl ((tX12_isPlace g7).up (by decide)) rfl ?_
    refine zq_if1 (b := ¬ r5 = 0) rfl Iff.rfl rfl (fun g8 => ?_) (fun g8 => ?_)
    · rw [if_pos g8] at h
      refine zr_many 1 (pc' := 24) (L' := [some (.ref 161), some (.int x1), some (.int x2), none, none, none, none]) (st' := [.ref 161]) (S1 := zS c (zsi s 161 0 (0 : Int32))) rfl ?_
      refine zq_get rfl (zh_161 _) rfl rfl rfl ?_
      refine zr_many 1 (pc' := 28) (L' := [some (.ref 161), some (.int x1), some (.int x2), none, none, none, none]) (st' := [.int x1, .ref 169]) (S1 := zS c (zsi s 161 0 (0 : Int32))) rfl ?_
      obtain ⟨r9, g11, h⟩ := zp_inv h
      refine zq_scall1 rfl (by decide) rfl rfl ((tX12_placeOf zR_n g11).up (by decide)) rfl ?_
      refine zr_many 7 (pc' := 42) (L' := [some (.ref 161), some (.int x1), some (.int x2), some (.int r9), some (.int (0 : Int32)), some (.int (if x2 < r9 then x2 else r9)), none]) (st' := []) (S1 := zS c (zsi s 161 0 (0 : Int32))) rfl ?_
      obtain ⟨w17, g37, h⟩ := zp_inv h
      refine zr_wk [some (.ref 161), some (.int x1), some (.int x2), some (.int r9), some (.int (0 : Int32)), some (.int (if x2 < r9 then x2 else r9)), none] ⟨rfl, rfl, rfl, rfl, rfl, rfl, trivial⟩ (zl_cert (Z := fun w42 => zr kX12_hires 1 10 42 [some (.ref 161), some (.int x1), some (.int x2), some (.int r9), some (.int w42.1), some (.int w42.2), none] [] (zS c (zsi s 161 0 (0 : Int32))) _ _) (Y := (fun z => zr kX12_hires 1 10 79 [some (.ref 161), some (.int x1), some (.int x2), none, some (.int z), none, none] [] (zS c (zsi s 161 0 (0 : Int32))) _ _)) (fun w o h1 h2 h3 => tX12_hires_B42 h1 h2 h3) n _ _ g37 ?_)
      show zr kX12_hires 1 10 79 [some (.ref 161), some (.int x1), some (.int x2), none, some (.int w17), none, none] [] (zS c (zsi s 161 0 (0 : Int32))) _ _
      refine zr_many 4 (pc' := 86) (L' := [some (.ref 161), some (.int x1), some (.int x2), none, some (.int w17), some (.int (-2 : Int32)), some (.int (0 : Int32))]) (st' := []) (S1 := zS c (zsi s 161 0 (0 : Int32))) rfl ?_
      obtain ⟨w28, g36, h⟩ := zp_inv h
      refine zr_wk [some (.ref 161), some (.int x1), some (.int x2), none, some (.int w17), some (.int (-2 : Int32)), some (.int (0 : Int32))] ⟨rfl, rfl, rfl, rfl, rfl, rfl, trivial⟩ (zl_cert (Z := fun w86 => zr kX12_hires 1 10 86 [some (.ref 161), some (.int x1), some (.int x2), none, some (.int w17), some (.int w86.1), some (.int w86.2.1)] [] (zS c w86.2.2) _ _) (Y := (fun z => zr kX12_hires 1 10 140 [some (.ref 161), none, none, none, none, some (.int z.1), none] [] (zS c z.2) _ _)) (fun w o h1 h2 h3 => tX12_hires_B86 h1 h2 h3) n _ _ g36 ?_)
      show zr kX12_hires 1 10 140 [some (.ref 161), none, none, none, none, some (.int w28.1), none] [] (zS c w28.2) _ _
      refine zr_many 1 (pc' := 142) (L' := [some (.ref 161), none, none, none, none, some (.int w28.1), none]) (st' := [.int w28.1]) (S1 := zS c w28.2) rfl ?_
      refine zq_if1 (b := w28.1 < 0) rfl Iff.rfl rfl (fun g29 => ?_) (fun g29 => ?_)
      · rw [if_pos g29] at h
        exact zr_wk [none, none, none, none, none, some (.int w28.1), none] ⟨rfl, trivial⟩ (tX12_hires_J161 h)
      · rw [if_neg g29] at h
        refine zr_many 2 (pc' := 147) (L' := [some (.ref 161), none, none, none, none, some (.int w28.1), none]) (st' := [.int (0 : Int32), .ref 161]) (S1 := zS c w28.2) rfl ?_
        refine zq_put (s' := (zsi w28.2 161 1 (0 : Int32))) rfl (zh_161 _) rfl rfl rfl rfl zsi_ne rfl ?_
        refine zr_many 3 (pc' := 154) (L' := [some (.ref 161), none, none, none, none, some (.int w28.1), none]) (st' := [.int w28.1, .ref 161, .ref 161]) (S1 := zS c (zsi w28.2 161 1 (0 : Int32))) rfl ?_
        obtain ⟨r30, g32, h⟩ := zp_inv h
        refine zq_call1 rfl rfl (zh_161 _) rfl rfl rfl ((tX12_fees g32).up (by decide)) rfl ?_
        refine zr_many 1 (pc' := 158) (L' := [some (.ref 161), none, none, none, none, some (.int w28.1), none]) (st' := [.long r30.toInt64, .ref 161]) (S1 := zS c (zsi w28.2 161 1 (0 : Int32))) rfl ?_
        obtain ⟨s34, g35, h⟩ := zp_inv h
        refine zq_call0 rfl rfl (zh_161 _) rfl rfl rfl ((tX12_enters g35).up (by decide)) rfl ?_
        exact zr_wk [none, none, none, none, none, some (.int w28.1), none] ⟨rfl, trivial⟩ (tX12_hires_J161 h)
    · rw [if_neg g8] at h
      exact zr_wk [none, none, none, none, none, none, none] trivial (tX12_hires_J21 h)
def fX12_rested_J21 (n : Nat) (s : zs) : Option (Int32 × zs) := some ((-1 : Int32), s)
theorem tX12_rested_J21 {n : Nat} {c : Nat × Nat} {s : zs} {r : Int32} {s' : zs} (h : fX12_rested_J21 n s = some (r, s')) : zr kX12_rested 1 12 21 [none, none, none, none, none] [] (zS c s) (some (.int r)) (zS c s') := by
  unfold fX12_rested_J21 at h
  refine zr_many 1 (pc' := 22) (L' := [none, none, none, none, none]) (st' := [.int (-1 : Int32)]) (S1 := zS c s) rfl ?_
  obtain ⟨rfl, rfl⟩ := Prod.mk.inj (Option.some.inj h)
  exact zq_iret rfl
def fX12_rested_B25 (n : Nat) (x1 : Int32) (x2 : Int32) (w25 : Int32 × zs) : Option ((Int32 × zs) ⊕ ((Int32 × Int32 × zs) ⊕ (zs))) := if (90 : Int32) < w25.1 then some (Sum.inr (Sum.inr w25.2)) else zp (fX12_puts n w25.2) (fun s11 => zp (fX12_restsFor n s11 170 w25.1) (fun s14 => zb (fX12_goesTo n s14 x1 x2) (fun r16 s17 => if r16 < 0 then some (Sum.inl ((w25.1 + (10 : Int32)), s17)) else some (Sum.inr (Sum.inl (w25.1, r16, s17))))))
theorem tX12_rested_B25 {n : Nat} {c : Nat × Nat} {x1 : Int32} {x2 : Int32} {w25 : Int32 × zs} {o : _} {v : Option Value} {S' : zi_S} (h : fX12_rested_B25 n x1 x2 w25 = some o) (hn : ∀ w25, o = Sum.inl w25 → zr kX12_rested 1 12 25 [some (.ref 161), some (.int x1), some (.int x2), some (.int w25.1), none] [] (zS c w25.2) v S') (hx : ∀ z, o = Sum.inr z → (Sum.elim (fun z => zr kX12_rested 1 12 57 [some (.ref 161), none, none, some (.int z.1), some (.int z.2.1)] [] (zS c z.2.2) v S') (fun z => zr kX12_rested 1 12 77 [none, none, none, none, none] [] (zS c z) v S')) z) : zr kX12_rested 1 12 25 [some (.ref 161), some (.int x1), some (.int x2), some (.int w25.1), none] [] (zS c w25.2) v S' := by
  unfold fX12_rested_B25 at h
  refine zr_many 2 (pc' := 28) (L' := [some (.ref 161), some (.int x1), some (.int x2), some (.int w25.1), none]) (st' := [.int (90 : Int32), .int w25.1]) (S1 := zS c w25.2) rfl ?_
  refine zq_if2 (b := (90 : Int32) < w25.1) rfl Iff.rfl rfl (fun g9 => ?_) (fun g9 => ?_)
  · rw [if_pos g9] at h
    obtain rfl := Option.some.inj h
    exact zr_wk [none, none, none, none, none] trivial (hx (Sum.inr w25.2) rfl)
  · rw [if_neg g9] at h
    refine zr_many 1 (pc' := 32) (L' := [some (.ref 161), some (.int x1), some (.int x2), some (.int w25.1), none]) (st' := [.ref 161]) (S1 := zS c w25.2) rfl ?_
    obtain ⟨s11, g12, h⟩ := zp_inv h
    refine zq_call0 rfl rfl (zh_161 _) rfl rfl rfl ((tX12_puts g12).up (by decide)) rfl ?_
    refine zr_many 2 (pc' := 37) (L' := [some (.ref 161), some (.int x1), some (.int x2), some (.int w25.1), none]) (st' := [.ref 161, .ref 161]) (S1 := zS c s11) rfl ?_
    refine zq_get rfl (zh_161 _) rfl rfl rfl ?_
    refine zr_many 1 (pc' := 41) (L' := [some (.ref 161), some (.int x1), some (.int x2), some (.int w25.1), none]) (st' := [.int w25.1, .ref 170, .ref 161]) (S1 := zS c s11) rfl ?_
    obtain ⟨s14, g15, h⟩ := zp_inv h
    refine zq_call0 rfl rfl (zh_161 _) rfl rfl rfl ((tX12_restsFor zR_t g15).up (by decide)) rfl ?_
    refine zr_many 3 (pc' := 47) (L' := [some (.ref 161), some (.int x1), some (.int x2), some (.int w25.1), none]) (st' := [.int x2, .int x1, .ref 161]) (S1 := zS c s14) rfl ?_
    obtain ⟨r16, s17, g18, h⟩ := zb_inv h
    refine zq_call1 rfl rfl (zh_161 _) rfl rfl rfl (tX12_goesTo g18) rfl ?_
    refine zr_many 2 (pc' := 54) (L' := [some (.ref 161), some (.int x1), some (.int x2), some (.int w25.1), some (.int r16)]) (st' := [.int r16]) (S1 := zS c s17) rfl ?_
    refine zq_if1 (b := r16 < 0) rfl Iff.rfl rfl (fun g19 => ?_) (fun g19 => ?_)
    · rw [if_pos g19] at h
      refine zr_many 2 (pc' := 25) (L' := [some (.ref 161), some (.int x1), some (.int x2), some (.int (w25.1 + (10 : Int32))), some (.int r16)]) (st' := []) (S1 := zS c s17) rfl ?_
      obtain rfl := Option.some.inj h
      exact zr_wk [some (.ref 161), some (.int x1), some (.int x2), some (.int (w25.1 + (10 : Int32))), none] ⟨rfl, rfl, rfl, rfl, trivial⟩ (hn ((w25.1 + (10 : Int32)), s17) rfl)
    · rw [if_neg g19] at h
      obtain rfl := Option.some.inj h
      exact zr_wk [some (.ref 161), none, none, some (.int w25.1), some (.int r16)] ⟨rfl, rfl, rfl, trivial⟩ (hx (Sum.inl (w25.1, r16, s17)) rfl)
def fX12_rested (n : Nat) (s : zs) (x1 : Int32) (x2 : Int32) : Option (Int32 × zs) := zp (fX12_isBarge n (zsi s 161 0 (0 : Int32)) x1) (fun r1 => if r1 = 0 then fX12_rested_J21 n (zsi s 161 0 (0 : Int32)) else zp (fX12_isPlace n (zsi s 161 0 (0 : Int32)) x2) (fun r5 => if ¬ r5 = 0 then zp (zl (fX12_rested_B25 n x1 x2) n ((0 : Int32), (zsi s 161 0 (0 : Int32)))) (Sum.elim (fun w20 => zp (fX12_enters n (zsi w20.2.2 161 1 (0 : Int32)) w20.2.1.toInt64) (fun s22 => some (w20.1, s22))) (fun w24 => some ((-2 : Int32), w24))) else fX12_rested_J21 n (zsi s 161 0 (0 : Int32))))
theorem tX12_rested {n : Nat} {c : Nat × Nat} {s : zs} {x1 : Int32} {x2 : Int32} {r : Int32} {s' : zs} (h : fX12_rested n s x1 x2 = some (r, s')) : zc 13 2486 [.ref 161, .int x1, .int x2] (zS c s) (some (.int r)) (zS c s') := by
  refine zc_of (k := kX12_rested) (rt := 1) (L := [some (.ref 161), some (.int x1), some (.int x2), none, none]) zm_2486.1 rfl rfl (by decide) rfl rfl ?_
  unfold fX12_rested at h
  refine zr_many 2 (pc' := 2) (L' := [some (.ref 161), some (.int x1), some (.int x2), none, none]) (st' := [.int (0 : Int32), .ref 161]) (S1 := zS c s) rfl ?_
  refine zq_put (s' := (zsi s 161 0 (0 : Int32))) rfl (zh_161 _) rfl rfl rfl rfl zsi_ne rfl ?_
  refine zr_many 2 (pc' := 7) (L' := [some (.ref 161), some (.int x1), some (.int x2), none, none]) (st' := [.int x1, .ref 161]) (S1 := zS c (zsi s 161 0 (0 : Int32))) rfl ?_
  obtain ⟨r1, g3, h⟩ := zp_inv h
  refine zq_call1 rfl rfl (zh_161 _) rfl rfl rfl ((tX12_isBarge g3).up (by decide)) rfl ?_
  refine zq_if1 (b := r1 = 0) rfl Iff.rfl rfl (fun g4 => ?_) (fun g4 => ?_)
  · rw [if_pos g4] at h
    exact zr_wk [none, none, none, none, none] trivial (tX12_rested_J21 h)
  · rw [if_neg g4] at h
    refine zr_many 2 (pc' := 15) (L' := [some (.ref 161), some (.int x1), some (.int x2), none, none]) (st' := [.int x2, .ref 161]) (S1 := zS c (zsi s 161 0 (0 : Int32))) rfl ?_
    obtain ⟨r5, g7, h⟩ := zp_inv h
    refine zq_call1 rfl rfl (zh_161 _) rfl rfl rfl ((tX12_isPlace g7).up (by decide)) rfl ?_
    refine zq_if1 (b := ¬ r5 = 0) rfl Iff.rfl rfl (fun g8 => ?_) (fun g8 => ?_)
    · rw [if_pos g8] at h
      refine zr_many 2 (pc' := 25) (L' := [some (.ref 161), some (.int x1), some (.int x2), some (.int (0 : Int32)), none]) (st' := []) (S1 := zS c (zsi s 161 0 (0 : Int32))) rfl ?_
      obtain ⟨w26, g25, h⟩ := zp_inv h
      rcases w26 with w20 | w24
      · simp only [Sum.elim_inl, Sum.elim_inr] at h
        refine zr_wk [some (.ref 161), some (.int x1), some (.int x2), some (.int (0 : Int32)), none] ⟨rfl, rfl, rfl, rfl, trivial⟩ (zl_cert (Z := fun w25 => zr kX12_rested 1 12 25 [some (.ref 161), some (.int x1), some (.int x2), some (.int w25.1), none] [] (zS c w25.2) _ _) (Y := (Sum.elim (fun z => zr kX12_rested 1 12 57 [some (.ref 161), none, none, some (.int z.1), some (.int z.2.1)] [] (zS c z.2.2) _ _) (fun z => zr kX12_rested 1 12 77 [none, none, none, none, none] [] (zS c z) _ _))) (fun w o h1 h2 h3 => tX12_rested_B25 h1 h2 h3) n _ _ g25 ?_)
        show zr kX12_rested 1 12 57 [some (.ref 161), none, none, some (.int w20.1), some (.int w20.2.1)] [] (zS c w20.2.2) _ _
        refine zr_many 2 (pc' := 59) (L' := [some (.ref 161), none, none, some (.int w20.1), some (.int w20.2.1)]) (st' := [.int (0 : Int32), .ref 161]) (S1 := zS c w20.2.2) rfl ?_
        refine zq_put (s' := (zsi w20.2.2 161 1 (0 : Int32))) rfl (zh_161 _) rfl rfl rfl rfl zsi_ne rfl ?_
        refine zr_many 3 (pc' := 66) (L' := [some (.ref 161), none, none, some (.int w20.1), some (.int w20.2.1)]) (st' := [.long w20.2.1.toInt64, .ref 161]) (S1 := zS c (zsi w20.2.2 161 1 (0 : Int32))) rfl ?_
        obtain ⟨s22, g23, h⟩ := zp_inv h
        refine zq_call0 rfl rfl (zh_161 _) rfl rfl rfl ((tX12_enters g23).up (by decide)) rfl ?_
        refine zr_many 1 (pc' := 70) (L' := [some (.ref 161), none, none, some (.int w20.1), some (.int w20.2.1)]) (st' := [.int w20.1]) (S1 := zS c s22) rfl ?_
        obtain ⟨rfl, rfl⟩ := Prod.mk.inj (Option.some.inj h)
        exact zq_iret rfl
      · simp only [Sum.elim_inl, Sum.elim_inr] at h
        refine zr_wk [some (.ref 161), some (.int x1), some (.int x2), some (.int (0 : Int32)), none] ⟨rfl, rfl, rfl, rfl, trivial⟩ (zl_cert (Z := fun w25 => zr kX12_rested 1 12 25 [some (.ref 161), some (.int x1), some (.int x2), some (.int w25.1), none] [] (zS c w25.2) _ _) (Y := (Sum.elim (fun z => zr kX12_rested 1 12 57 [some (.ref 161), none, none, some (.int z.1), some (.int z.2.1)] [] (zS c z.2.2) _ _) (fun z => zr kX12_rested 1 12 77 [none, none, none, none, none] [] (zS c z) _ _))) (fun w o h1 h2 h3 => tX12_rested_B25 h1 h2 h3) n _ _ g25 ?_)
        show zr kX12_rested 1 12 77 [none, none, none, none, none] [] (zS c w24) _ _
        refine zr_many 1 (pc' := 79) (L' := [none, none, none, none, none]) (st' := [.int (-2 : Int32)]) (S1 := zS c w24) rfl ?_
        obtain ⟨rfl, rfl⟩ := Prod.mk.inj (Option.some.inj h)
        exact zq_iret rfl
    · rw [if_neg g8] at h
      exact zr_wk [none, none, none, none, none] trivial (tX12_rested_J21 h)
def fX12_spot (n : Nat) (s : zs) (x0 : Int32) (x1 : Int32) (x2 : Int32) : Option Int32 := some (((((15 : Int32) * x0) + x1) * (2 : Int32)) + x2)
theorem tX12_spot {n : Nat} {c : Nat × Nat} {s : zs} {x0 : Int32} {x1 : Int32} {x2 : Int32} {r : Int32} (h : fX12_spot n s x0 x1 x2 = some r) : zc 1 2487 [.int x0, .int x1, .int x2] (zS c s) (some (.int r)) (zS c s) := by
  refine zc_of (k := kX12_spot) (rt := 1) (L := [some (.int x0), some (.int x1), some (.int x2)]) zm_2487.1 rfl rfl (by decide) rfl rfl ?_
  unfold fX12_spot at h
  refine zr_many 9 (pc' := 10) (L' := [some (.int x0), some (.int x1), some (.int x2)]) (st' := [.int (((((15 : Int32) * x0) + x1) * (2 : Int32)) + x2)]) (S1 := zS c s) rfl ?_
  obtain rfl := Option.some.inj h
  exact zq_iret rfl
def fX12_costOf_J18 (n : Nat) (s : zs) (y0 : Int32) (y1 : Int32) : Option Int32 := zp (fX12_flag n s y1) (fun r5 => some (y0 + r5))
theorem tX12_costOf_J18 {n : Nat} {c : Nat × Nat} {s : zs} {y0 : Int32} {y1 : Int32} {r : Int32} (h : fX12_costOf_J18 n s y0 y1 = some r) : zr kX12_costOf 1 1 18 [none, none] [.int y1, .int y0] (zS c s) (some (.int r)) (zS c s) := by
  unfold fX12_costOf_J18 at h
  obtain ⟨r5, g7, h⟩ := zp_inv h
  refine zq_scall1 rfl (by decide) rfl rfl (tX12_flag g7) rfl ?_
  refine zr_many 1 (pc' := 22) (L' := [none, none]) (st' := [.int (y0 + r5)]) (S1 := zS c s) rfl ?_
  obtain rfl := Option.some.inj h
  exact zq_iret rfl
def fX12_costOf (n : Nat) (s : zs) (x0 : Int32) (x1 : Int32) : Option Int32 := zp (fX12_waterFor n s x0 x1) (fun r1 => if ¬ x0 = x1 then fX12_costOf_J18 n s ((100 : Int32) * r1) (0 : Int32) else fX12_costOf_J18 n s ((100 : Int32) * r1) (1 : Int32))
theorem tX12_costOf {n : Nat} {c : Nat × Nat} {s : zs} {x0 : Int32} {x1 : Int32} {r : Int32} (h : fX12_costOf n s x0 x1 = some r) : zc 2 2488 [.int x0, .int x1] (zS c s) (some (.int r)) (zS c s) := by
  refine zc_of (k := kX12_costOf) (rt := 1) (L := [some (.int x0), some (.int x1)]) zm_2488.1 rfl rfl (by decide) rfl rfl ?_
  unfold fX12_costOf at h
  refine zr_many 3 (pc' := 4) (L' := [some (.int x0), some (.int x1)]) (st' := [.int x1, .int x0, .int (100 : Int32)]) (S1 := zS c s) rfl ?_
  obtain ⟨r1, g3, h⟩ := zp_inv h
  refine zq_scall1 rfl (by decide) rfl rfl (tX12_waterFor g3) rfl ?_
  refine zr_many 3 (pc' := 10) (L' := [some (.int x0), some (.int x1)]) (st' := [.int x1, .int x0, .int ((100 : Int32) * r1)]) (S1 := zS c s) rfl ?_
  refine zq_if2 (b := ¬ x0 = x1) rfl Iff.rfl rfl (fun g4 => ?_) (fun g4 => ?_)
  · rw [if_pos g4] at h
    refine zr_many 1 (pc' := 18) (L' := [some (.int x0), some (.int x1)]) (st' := [.int (0 : Int32), .int ((100 : Int32) * r1)]) (S1 := zS c s) rfl ?_
    exact zr_wk [none, none] trivial (tX12_costOf_J18 h)
  · rw [if_neg g4] at h
    refine zr_many 2 (pc' := 18) (L' := [some (.int x0), some (.int x1)]) (st' := [.int (1 : Int32), .int ((100 : Int32) * r1)]) (S1 := zS c s) rfl ?_
    exact zr_wk [none, none] trivial (tX12_costOf_J18 h)
def fX12_yetBy_J29 (n : Nat) (s : zs) (x1 : Int32) (x2 : Int32) (x3 : Int32) (x4 : Int32) : Option Int32 := zp (fX12_costOf n s x3 x4) (fun r3 => zp (fX12_spot n s (x1 + x4) ((x2 + (1 : Int32)) - x4) x4) (fun r6 => cond (zi_in r6 450) (some (r3 + (s.1 185 r6.toNatClampNeg))) none))
theorem tX12_yetBy_J29 {n : Nat} {c : Nat × Nat} {s : zs} {x1 : Int32} {x2 : Int32} {x3 : Int32} {x4 : Int32} {r : Int32} (h : fX12_yetBy_J29 n s x1 x2 x3 x4 = some r) : zr kX12_yetBy 1 2 29 [some (.ref 161), some (.int x1), some (.int x2), some (.int x3), some (.int x4)] [] (zS c s) (some (.int r)) (zS c s) := by
  unfold fX12_yetBy_J29 at h
  refine zr_many 2 (pc' := 32) (L' := [some (.ref 161), some (.int x1), some (.int x2), some (.int x3), some (.int x4)]) (st' := [.int x4, .int x3]) (S1 := zS c s) rfl ?_
  obtain ⟨r3, g5, h⟩ := zp_inv h
  refine zq_scall1 rfl (by decide) rfl rfl (tX12_costOf g5) rfl ?_
  refine zr_many 1 (pc' := 36) (L' := [some (.ref 161), some (.int x1), some (.int x2), some (.int x3), some (.int x4)]) (st' := [.ref 161, .int r3]) (S1 := zS c s) rfl ?_
  refine zq_get rfl (zh_161 _) rfl rfl rfl ?_
  refine zr_many 9 (pc' := 51) (L' := [some (.ref 161), some (.int x1), some (.int x2), some (.int x3), some (.int x4)]) (st' := [.int x4, .int ((x2 + (1 : Int32)) - x4), .int (x1 + x4), .ref 185, .int r3]) (S1 := zS c s) rfl ?_
  obtain ⟨r6, g8, h⟩ := zp_inv h
  refine zq_scall1 rfl (by decide) rfl rfl ((tX12_spot g8).up (by decide)) rfl ?_
  obtain ⟨g9, h⟩ := zi_cond_inv h
  refine zq_ild rfl (zh_185 _) rfl g9 rfl ?_
  refine zr_many 1 (pc' := 56) (L' := [some (.ref 161), some (.int x1), some (.int x2), some (.int x3), some (.int x4)]) (st' := [.int (r3 + (s.1 185 r6.toNatClampNeg))]) (S1 := zS c s) rfl ?_
  obtain rfl := Option.some.inj h
  exact zq_iret rfl
def fX12_yetBy_J25 (n : Nat) (s : zs) : Option Int32 := some (1000000 : Int32)
theorem tX12_yetBy_J25 {n : Nat} {c : Nat × Nat} {s : zs} {r : Int32} (h : fX12_yetBy_J25 n s = some r) : zr kX12_yetBy 1 2 25 [none, none, none, none, none] [] (zS c s) (some (.int r)) (zS c s) := by
  unfold fX12_yetBy_J25 at h
  refine zr_many 1 (pc' := 28) (L' := [none, none, none, none, none]) (st' := [.int (1000000 : Int32)]) (S1 := zS c s) rfl ?_
  obtain rfl := Option.some.inj h
  exact zq_iret rfl
def fX12_yetBy (n : Nat) (s : zs) (x1 : Int32) (x2 : Int32) (x3 : Int32) (x4 : Int32) : Option Int32 := if ¬ x4 = (1 : Int32) then if ¬ x2 = (s.1 161 43) then fX12_yetBy_J29 n s x1 x2 x3 x4 else fX12_yetBy_J25 n s else if ¬ x1 = (s.1 161 42) then fX12_yetBy_J29 n s x1 x2 x3 x4 else fX12_yetBy_J25 n s
theorem tX12_yetBy {n : Nat} {c : Nat × Nat} {s : zs} {x1 : Int32} {x2 : Int32} {x3 : Int32} {x4 : Int32} {r : Int32} (h : fX12_yetBy n s x1 x2 x3 x4 = some r) : zc 3 2489 [.ref 161, .int x1, .int x2, .int x3, .int x4] (zS c s) (some (.int r)) (zS c s) := by
  refine zc_of (k := kX12_yetBy) (rt := 1) (L := [some (.ref 161), some (.int x1), some (.int x2), some (.int x3), some (.int x4)]) zm_2489.1 rfl rfl (by decide) rfl rfl ?_
  unfold fX12_yetBy at h
  refine zr_many 2 (pc' := 3) (L' := [some (.ref 161), some (.int x1), some (.int x2), some (.int x3), some (.int x4)]) (st' := [.int (1 : Int32), .int x4]) (S1 := zS c s) rfl ?_
  refine zq_if2 (b := ¬ x4 = (1 : Int32)) rfl Iff.rfl rfl (fun g1 => ?_) (fun g1 => ?_)
  · rw [if_pos g1] at h
    refine zr_many 2 (pc' := 19) (L' := [some (.ref 161), some (.int x1), some (.int x2), some (.int x3), some (.int x4)]) (st' := [.ref 161, .int x2]) (S1 := zS c s) rfl ?_
    refine zq_get rfl (zh_161 _) rfl rfl rfl ?_
    refine zq_if2 (b := ¬ x2 = (s.1 161 43)) rfl Iff.rfl rfl (fun g2 => ?_) (fun g2 => ?_)
    · rw [if_pos g2] at h
      exact zr_wk [some (.ref 161), some (.int x1), some (.int x2), some (.int x3), some (.int x4)] ⟨rfl, rfl, rfl, rfl, rfl, trivial⟩ (tX12_yetBy_J29 h)
    · rw [if_neg g2] at h
      exact zr_wk [none, none, none, none, none] trivial (tX12_yetBy_J25 h)
  · rw [if_neg g1] at h
    refine zr_many 2 (pc' := 8) (L' := [some (.ref 161), some (.int x1), some (.int x2), some (.int x3), some (.int x4)]) (st' := [.ref 161, .int x1]) (S1 := zS c s) rfl ?_
    refine zq_get rfl (zh_161 _) rfl rfl rfl ?_
    refine zq_if2 (b := ¬ x1 = (s.1 161 42)) rfl Iff.rfl rfl (fun g10 => ?_) (fun g10 => ?_)
    · rw [if_pos g10] at h
      exact zr_wk [some (.ref 161), some (.int x1), some (.int x2), some (.int x3), some (.int x4)] ⟨rfl, rfl, rfl, rfl, rfl, trivial⟩ (tX12_yetBy_J29 h)
    · rw [if_neg g10] at h
      refine zr_many 1 (pc' := 25) (L' := [some (.ref 161), some (.int x1), some (.int x2), some (.int x3), some (.int x4)]) (st' := []) (S1 := zS c s) rfl ?_
      exact zr_wk [none, none, none, none, none] trivial (tX12_yetBy_J25 h)
def fX12_laysQueue_J78 (n : Nat) (s : zs) (x1 : Int32) (x2 : Int32) (x3 : Int32) (y1 : Int32) (y2 : Int32) : Option ((Int32 × zs) ⊕ (zs)) := cond (zi_in y1 450) (some (Sum.inl ((x3 + (1 : Int32)), (zsi s 185 y1.toNatClampNeg y2)))) none
theorem tX12_laysQueue_J78 {n : Nat} {c : Nat × Nat} {s : zs} {x1 : Int32} {x2 : Int32} {x3 : Int32} {y1 : Int32} {y2 : Int32} {o : _} {v : Option Value} {S' : zi_S} (h : fX12_laysQueue_J78 n s x1 x2 x3 y1 y2 = some o) (hn : ∀ w20, o = Sum.inl w20 → zr kX12_laysQueue 0 3 20 [some (.ref 161), some (.int x1), some (.int x2), some (.int w20.1), none] [] (zS c w20.2) v S') (hx : ∀ z, o = Sum.inr z → (fun z => zr kX12_laysQueue 0 3 85 [some (.ref 161), some (.int x1), some (.int x2), none, none] [] (zS c z) v S') z) : zr kX12_laysQueue 0 3 78 [some (.ref 161), some (.int x1), some (.int x2), some (.int x3), none] [.int y2, .int y1, .ref 185] (zS c s) v S' := by
  unfold fX12_laysQueue_J78 at h
  obtain ⟨g14, h⟩ := zi_cond_inv h
  refine zq_ist rfl zh_185 rfl g14 rfl ?_
  refine zr_many 2 (pc' := 20) (L' := [some (.ref 161), some (.int x1), some (.int x2), some (.int (x3 + (1 : Int32))), none]) (st' := []) (S1 := zS c (zsi s 185 y1.toNatClampNeg y2)) rfl ?_
  obtain rfl := Option.some.inj h
  exact zr_wk [some (.ref 161), some (.int x1), some (.int x2), some (.int (x3 + (1 : Int32))), none] ⟨rfl, rfl, rfl, rfl, trivial⟩ (hn ((x3 + (1 : Int32)), (zsi s 185 y1.toNatClampNeg y2)) rfl)
def fX12_laysQueue_J76 (n : Nat) (s : zs) (x1 : Int32) (x2 : Int32) (x3 : Int32) (x4 : Int32) (y1 : Int32) : Option ((Int32 × zs) ⊕ (zs)) := fX12_laysQueue_J78 n s x1 x2 x3 y1 x4
theorem tX12_laysQueue_J76 {n : Nat} {c : Nat × Nat} {s : zs} {x1 : Int32} {x2 : Int32} {x3 : Int32} {x4 : Int32} {y1 : Int32} {o : _} {v : Option Value} {S' : zi_S} (h : fX12_laysQueue_J76 n s x1 x2 x3 x4 y1 = some o) (hn : ∀ w20, o = Sum.inl w20 → zr kX12_laysQueue 0 3 20 [some (.ref 161), some (.int x1), some (.int x2), some (.int w20.1), none] [] (zS c w20.2) v S') (hx : ∀ z, o = Sum.inr z → (fun z => zr kX12_laysQueue 0 3 85 [some (.ref 161), some (.int x1), some (.int x2), none, none] [] (zS c z) v S') z) : zr kX12_laysQueue 0 3 76 [some (.ref 161), some (.int x1), some (.int x2), some (.int x3), some (.int x4)] [.int y1, .ref 185] (zS c s) v S' := by
  unfold fX12_laysQueue_J76 at h
  refine zr_many 1 (pc' := 78) (L' := [some (.ref 161), some (.int x1), some (.int x2), some (.int x3), some (.int x4)]) (st' := [.int x4, .int y1, .ref 185]) (S1 := zS c s) rfl ?_
  exact zr_wk [some (.ref 161), some (.int x1), some (.int x2), some (.int x3), none] ⟨rfl, rfl, rfl, rfl, trivial⟩ (tX12_laysQueue_J78 h hn hx)
def fX12_laysQueue_B20 (n : Nat) (x1 : Int32) (x2 : Int32) (w20 : Int32 × zs) : Option ((Int32 × zs) ⊕ (zs)) := if (2 : Int32) ≤ w20.1 then some (Sum.inr w20.2) else zp (fX12_yetBy n w20.2 x1 x2 w20.1 (0 : Int32)) (fun r4 => zp (fX12_yetBy n w20.2 x1 x2 w20.1 (1 : Int32)) (fun r7 => zp (fX12_spot n w20.2 x1 x2 w20.1) (fun r10 => if ¬ x1 = (w20.2.1 161 42) then fX12_laysQueue_J76 n w20.2 x1 x2 w20.1 (if r7 < r4 then r7 else r4) r10 else if ¬ x2 = (w20.2.1 161 43) then fX12_laysQueue_J76 n w20.2 x1 x2 w20.1 (if r7 < r4 then r7 else r4) r10 else fX12_laysQueue_J78 n w20.2 x1 x2 w20.1 r10 (0 : Int32))))
theorem tX12_laysQueue_B20 {n : Nat} {c : Nat × Nat} {x1 : Int32} {x2 : Int32} {w20 : Int32 × zs} {o : _} {v : Option Value} {S' : zi_S} (h : fX12_laysQueue_B20 n x1 x2 w20 = some o) (hn : ∀ w20, o = Sum.inl w20 → zr kX12_laysQueue 0 3 20 [some (.ref 161), some (.int x1), some (.int x2), some (.int w20.1), none] [] (zS c w20.2) v S') (hx : ∀ z, o = Sum.inr z → (fun z => zr kX12_laysQueue 0 3 85 [some (.ref 161), some (.int x1), some (.int x2), none, none] [] (zS c z) v S') z) : zr kX12_laysQueue 0 3 20 [some (.ref 161), some (.int x1), some (.int x2), some (.int w20.1), none] [] (zS c w20.2) v S' := by
  unfold fX12_laysQueue_B20 at h
  refine zr_many 2 (pc' := 22) (L' := [some (.ref 161), some (.int x1), some (.int x2), some (.int w20.1), none]) (st' := [.int (2 : Int32), .int w20.1]) (S1 := zS c w20.2) rfl ?_
  refine zq_if2 (b := (2 : Int32) ≤ w20.1) rfl Iff.rfl rfl (fun g3 => ?_) (fun g3 => ?_)
  · rw [if_pos g3] at h
    obtain rfl := Option.some.inj h
    exact zr_wk [some (.ref 161), some (.int x1), some (.int x2), none, none] ⟨rfl, rfl, rfl, trivial⟩ (hx w20.2 rfl)
  · rw [if_neg g3] at h
    refine zr_many 5 (pc' := 30) (L' := [some (.ref 161), some (.int x1), some (.int x2), some (.int w20.1), none]) (st' := [.int (0 : Int32), .int w20.1, .int x2, .int x1, .ref 161]) (S1 := zS c w20.2) rfl ?_
    obtain ⟨r4, g6, h⟩ := zp_inv h
    refine zq_call1 rfl rfl (zh_161 _) rfl rfl rfl (tX12_yetBy g6) rfl ?_
    refine zr_many 5 (pc' := 38) (L' := [some (.ref 161), some (.int x1), some (.int x2), some (.int w20.1), none]) (st' := [.int (1 : Int32), .int w20.1, .int x2, .int x1, .ref 161, .int r4]) (S1 := zS c w20.2) rfl ?_
    obtain ⟨r7, g9, h⟩ := zp_inv h
    refine zq_call1 rfl rfl (zh_161 _) rfl rfl rfl (tX12_yetBy g9) rfl ?_
    refine zr_many 3 (pc' := 47) (L' := [some (.ref 161), some (.int x1), some (.int x2), some (.int w20.1), some (.int (if r7 < r4 then r7 else r4))]) (st' := [.ref 161]) (S1 := zS c w20.2) rfl ?_
    refine zq_get rfl (zh_161 _) rfl rfl rfl ?_
    refine zr_many 3 (pc' := 53) (L' := [some (.ref 161), some (.int x1), some (.int x2), some (.int w20.1), some (.int (if r7 < r4 then r7 else r4))]) (st' := [.int w20.1, .int x2, .int x1, .ref 185]) (S1 := zS c w20.2) rfl ?_
    obtain ⟨r10, g12, h⟩ := zp_inv h
    refine zq_scall1 rfl (by decide) rfl rfl ((tX12_spot g12).up (by decide)) rfl ?_
    refine zr_many 2 (pc' := 58) (L' := [some (.ref 161), some (.int x1), some (.int x2), some (.int w20.1), some (.int (if r7 < r4 then r7 else r4))]) (st' := [.ref 161, .int x1, .int r10, .ref 185]) (S1 := zS c w20.2) rfl ?_
    refine zq_get rfl (zh_161 _) rfl rfl rfl ?_
    refine zq_if2 (b := ¬ x1 = (w20.2.1 161 42)) rfl Iff.rfl rfl (fun g13 => ?_) (fun g13 => ?_)
    · rw [if_pos g13] at h
      exact zr_wk [some (.ref 161), some (.int x1), some (.int x2), some (.int w20.1), some (.int (if r7 < r4 then r7 else r4))] ⟨rfl, rfl, rfl, rfl, rfl, trivial⟩ (tX12_laysQueue_J76 h hn hx)
    · rw [if_neg g13] at h
      refine zr_many 2 (pc' := 66) (L' := [some (.ref 161), some (.int x1), some (.int x2), some (.int w20.1), some (.int (if r7 < r4 then r7 else r4))]) (st' := [.ref 161, .int x2, .int r10, .ref 185]) (S1 := zS c w20.2) rfl ?_
      refine zq_get rfl (zh_161 _) rfl rfl rfl ?_
      refine zq_if2 (b := ¬ x2 = (w20.2.1 161 43)) rfl Iff.rfl rfl (fun g15 => ?_) (fun g15 => ?_)
      · rw [if_pos g15] at h
        exact zr_wk [some (.ref 161), some (.int x1), some (.int x2), some (.int w20.1), some (.int (if r7 < r4 then r7 else r4))] ⟨rfl, rfl, rfl, rfl, rfl, trivial⟩ (tX12_laysQueue_J76 h hn hx)
      · rw [if_neg g15] at h
        refine zr_many 2 (pc' := 78) (L' := [some (.ref 161), some (.int x1), some (.int x2), some (.int w20.1), some (.int (if r7 < r4 then r7 else r4))]) (st' := [.int (0 : Int32), .int r10, .ref 185]) (S1 := zS c w20.2) rfl ?_
        exact zr_wk [some (.ref 161), some (.int x1), some (.int x2), some (.int w20.1), none] ⟨rfl, rfl, rfl, rfl, trivial⟩ (tX12_laysQueue_J78 h hn hx)
def fX12_laysQueue_B14 (n : Nat) (x1 : Int32) (w14 : Int32 × zs) : Option ((Int32 × zs) ⊕ (zs)) := if w14.1 < 0 then some (Sum.inr w14.2) else zp (zl (fX12_laysQueue_B20 n x1 w14.1) n ((0 : Int32), w14.2)) (fun w16 => some (Sum.inl ((w14.1 + (-1 : Int32)), w16)))
theorem tX12_laysQueue_B14 {n : Nat} {c : Nat × Nat} {x1 : Int32} {w14 : Int32 × zs} {o : _} {v : Option Value} {S' : zi_S} (h : fX12_laysQueue_B14 n x1 w14 = some o) (hn : ∀ w14, o = Sum.inl w14 → zr kX12_laysQueue 0 3 14 [some (.ref 161), some (.int x1), some (.int w14.1), none, none] [] (zS c w14.2) v S') (hx : ∀ z, o = Sum.inr z → (fun z => zr kX12_laysQueue 0 3 91 [some (.ref 161), some (.int x1), none, none, none] [] (zS c z) v S') z) : zr kX12_laysQueue 0 3 14 [some (.ref 161), some (.int x1), some (.int w14.1), none, none] [] (zS c w14.2) v S' := by
  unfold fX12_laysQueue_B14 at h
  refine zr_many 1 (pc' := 15) (L' := [some (.ref 161), some (.int x1), some (.int w14.1), none, none]) (st' := [.int w14.1]) (S1 := zS c w14.2) rfl ?_
  refine zq_if1 (b := w14.1 < 0) rfl Iff.rfl rfl (fun g2 => ?_) (fun g2 => ?_)
  · rw [if_pos g2] at h
    obtain rfl := Option.some.inj h
    exact zr_wk [some (.ref 161), some (.int x1), none, none, none] ⟨rfl, rfl, trivial⟩ (hx w14.2 rfl)
  · rw [if_neg g2] at h
    refine zr_many 2 (pc' := 20) (L' := [some (.ref 161), some (.int x1), some (.int w14.1), some (.int (0 : Int32)), none]) (st' := []) (S1 := zS c w14.2) rfl ?_
    obtain ⟨w16, g17, h⟩ := zp_inv h
    refine zr_wk [some (.ref 161), some (.int x1), some (.int w14.1), some (.int (0 : Int32)), none] ⟨rfl, rfl, rfl, rfl, trivial⟩ (zl_cert (Z := fun w20 => zr kX12_laysQueue 0 3 20 [some (.ref 161), some (.int x1), some (.int w14.1), some (.int w20.1), none] [] (zS c w20.2) _ _) (Y := (fun z => zr kX12_laysQueue 0 3 85 [some (.ref 161), some (.int x1), some (.int w14.1), none, none] [] (zS c z) _ _)) (fun w o h1 h2 h3 => tX12_laysQueue_B20 h1 h2 h3) n _ _ g17 ?_)
    show zr kX12_laysQueue 0 3 85 [some (.ref 161), some (.int x1), some (.int w14.1), none, none] [] (zS c w16) _ _
    refine zr_many 2 (pc' := 14) (L' := [some (.ref 161), some (.int x1), some (.int (w14.1 + (-1 : Int32))), none, none]) (st' := []) (S1 := zS c w16) rfl ?_
    obtain rfl := Option.some.inj h
    exact zr_wk [some (.ref 161), some (.int x1), some (.int (w14.1 + (-1 : Int32))), none, none] ⟨rfl, rfl, rfl, trivial⟩ (hn ((w14.1 + (-1 : Int32)), w16) rfl)
def fX12_laysQueue_B5 (n : Nat) (w5 : Int32 × zs) : Option ((Int32 × zs) ⊕ (zs)) := if w5.1 < 0 then some (Sum.inr w5.2) else zp (zl (fX12_laysQueue_B14 n w5.1) n ((w5.2.1 161 43), w5.2)) (fun w18 => some (Sum.inl ((w5.1 + (-1 : Int32)), w18)))
theorem tX12_laysQueue_B5 {n : Nat} {c : Nat × Nat} {w5 : Int32 × zs} {o : _} {v : Option Value} {S' : zi_S} (h : fX12_laysQueue_B5 n w5 = some o) (hn : ∀ w5, o = Sum.inl w5 → zr kX12_laysQueue 0 3 5 [some (.ref 161), some (.int w5.1), none, none, none] [] (zS c w5.2) v S') (hx : ∀ z, o = Sum.inr z → (fun z => zr kX12_laysQueue 0 3 97 [none, none, none, none, none] [] (zS c z) v S') z) : zr kX12_laysQueue 0 3 5 [some (.ref 161), some (.int w5.1), none, none, none] [] (zS c w5.2) v S' := by
  unfold fX12_laysQueue_B5 at h
  refine zr_many 1 (pc' := 6) (L' := [some (.ref 161), some (.int w5.1), none, none, none]) (st' := [.int w5.1]) (S1 := zS c w5.2) rfl ?_
  refine zq_if1 (b := w5.1 < 0) rfl Iff.rfl rfl (fun g1 => ?_) (fun g1 => ?_)
  · rw [if_pos g1] at h
    obtain rfl := Option.some.inj h
    exact zr_wk [none, none, none, none, none] trivial (hx w5.2 rfl)
  · rw [if_neg g1] at h
    refine zr_many 1 (pc' := 10) (L' := [some (.ref 161), some (.int w5.1), none, none, none]) (st' := [.ref 161]) (S1 := zS c w5.2) rfl ?_
    refine zq_get rfl (zh_161 _) rfl rfl rfl ?_
    refine zr_many 1 (pc' := 14) (L' := [some (.ref 161), some (.int w5.1), some (.int (w5.2.1 161 43)), none, none]) (st' := []) (S1 := zS c w5.2) rfl ?_
    obtain ⟨w18, g19, h⟩ := zp_inv h
    refine zr_wk [some (.ref 161), some (.int w5.1), some (.int (w5.2.1 161 43)), none, none] ⟨rfl, rfl, rfl, trivial⟩ (zl_cert (Z := fun w14 => zr kX12_laysQueue 0 3 14 [some (.ref 161), some (.int w5.1), some (.int w14.1), none, none] [] (zS c w14.2) _ _) (Y := (fun z => zr kX12_laysQueue 0 3 91 [some (.ref 161), some (.int w5.1), none, none, none] [] (zS c z) _ _)) (fun w o h1 h2 h3 => tX12_laysQueue_B14 h1 h2 h3) n _ _ g19 ?_)
    show zr kX12_laysQueue 0 3 91 [some (.ref 161), some (.int w5.1), none, none, none] [] (zS c w18) _ _
    refine zr_many 2 (pc' := 5) (L' := [some (.ref 161), some (.int (w5.1 + (-1 : Int32))), none, none, none]) (st' := []) (S1 := zS c w18) rfl ?_
    obtain rfl := Option.some.inj h
    exact zr_wk [some (.ref 161), some (.int (w5.1 + (-1 : Int32))), none, none, none] ⟨rfl, rfl, trivial⟩ (hn ((w5.1 + (-1 : Int32)), w18) rfl)
def fX12_laysQueue (n : Nat) (s : zs) : Option zs := zp (zl (fX12_laysQueue_B5 n) n ((s.1 161 42), s)) (fun w20 => some w20)
theorem tX12_laysQueue {n : Nat} {c : Nat × Nat} {s : zs} {s' : zs} (h : fX12_laysQueue n s = some s') : zc 4 2490 [.ref 161] (zS c s) none (zS c s') := by
  refine zc_of (k := kX12_laysQueue) (rt := 0) (L := [some (.ref 161), none, none, none, none]) zm_2490.1 rfl rfl (by decide) rfl rfl ?_
  unfold fX12_laysQueue at h
  refine zr_many 1 (pc' := 1) (L' := [some (.ref 161), none, none, none, none]) (st' := [.ref 161]) (S1 := zS c s) rfl ?_
  refine zq_get rfl (zh_161 _) rfl rfl rfl ?_
  refine zr_many 1 (pc' := 5) (L' := [some (.ref 161), some (.int (s.1 161 42)), none, none, none]) (st' := []) (S1 := zS c s) rfl ?_
  obtain ⟨w20, g21, h⟩ := zp_inv h
  refine zr_wk [some (.ref 161), some (.int (s.1 161 42)), none, none, none] ⟨rfl, rfl, trivial⟩ (zl_cert (Z := fun w5 => zr kX12_laysQueue 0 3 5 [some (.ref 161), some (.int w5.1), none, none, none] [] (zS c w5.2) _ _) (Y := (fun z => zr kX12_laysQueue 0 3 97 [none, none, none, none, none] [] (zS c z) _ _)) (fun w o h1 h2 h3 => tX12_laysQueue_B5 h1 h2 h3) n _ _ g21 ?_)
  show zr kX12_laysQueue 0 3 97 [none, none, none, none, none] [] (zS c w20) _ _
  obtain rfl := Option.some.inj h
  exact zq_vret rfl
def fX12_passing_J46 (n : Nat) (s : zs) (x2 : Int32) (y0 : Int32) (y1 : Int32) : Option ((Int32 × Int32 × zs) ⊕ (Int32 × zs)) := some (Sum.inl ((y0 ||| y1), (x2 + (1 : Int32)), s))
theorem tX12_passing_J46 {n : Nat} {c : Nat × Nat} {s : zs} {x2 : Int32} {y0 : Int32} {y1 : Int32} {o : _} {v : Option Value} {S' : zi_S} (h : fX12_passing_J46 n s x2 y0 y1 = some o) (hn : ∀ w4, o = Sum.inl w4 → zr kX12_passing 1 10 4 [some (.ref 161), some (.int w4.1), some (.int w4.2.1)] [] (zS c w4.2.2) v S') (hx : ∀ z, o = Sum.inr z → (fun z => zr kX12_passing 1 10 54 [none, some (.int z.1), none] [] (zS c z.2) v S') z) : zr kX12_passing 1 10 46 [some (.ref 161), none, some (.int x2)] [.int y1, .int y0] (zS c s) v S' := by
  unfold fX12_passing_J46 at h
  refine zr_many 4 (pc' := 4) (L' := [some (.ref 161), some (.int (y0 ||| y1)), some (.int (x2 + (1 : Int32)))]) (st' := []) (S1 := zS c s) rfl ?_
  obtain rfl := Option.some.inj h
  exact zr_wk [some (.ref 161), some (.int (y0 ||| y1)), some (.int (x2 + (1 : Int32)))] ⟨rfl, rfl, rfl, trivial⟩ (hn ((y0 ||| y1), (x2 + (1 : Int32)), s) rfl)
def fX12_passing_J39 (n : Nat) (s : zs) (x2 : Int32) (y0 : Int32) : Option ((Int32 × Int32 × zs) ⊕ (Int32 × zs)) := fX12_passing_J46 n s x2 y0 ((1 : Int32) <<< (x2 &&& 31))
theorem tX12_passing_J39 {n : Nat} {c : Nat × Nat} {s : zs} {x2 : Int32} {y0 : Int32} {o : _} {v : Option Value} {S' : zi_S} (h : fX12_passing_J39 n s x2 y0 = some o) (hn : ∀ w4, o = Sum.inl w4 → zr kX12_passing 1 10 4 [some (.ref 161), some (.int w4.1), some (.int w4.2.1)] [] (zS c w4.2.2) v S') (hx : ∀ z, o = Sum.inr z → (fun z => zr kX12_passing 1 10 54 [none, some (.int z.1), none] [] (zS c z.2) v S') z) : zr kX12_passing 1 10 39 [some (.ref 161), none, some (.int x2)] [.int y0] (zS c s) v S' := by
  unfold fX12_passing_J39 at h
  refine zr_many 4 (pc' := 46) (L' := [some (.ref 161), none, some (.int x2)]) (st' := [.int ((1 : Int32) <<< (x2 &&& 31)), .int y0]) (S1 := zS c s) rfl ?_
  exact zr_wk [some (.ref 161), none, some (.int x2)] ⟨rfl, rfl, trivial⟩ (tX12_passing_J46 h hn hx)
def fX12_passing_B4 (n : Nat) (w4 : Int32 × Int32 × zs) : Option ((Int32 × Int32 × zs) ⊕ (Int32 × zs)) := if (w4.2.2.1 161 5) ≤ w4.2.1 then some (Sum.inr (w4.1, w4.2.2)) else zb (fX12_whyNot n w4.2.2 169 w4.2.1 (0 : Int32)) (fun r2 s3 => if r2 = 0 then fX12_passing_J39 n s3 w4.2.1 w4.1 else zb (fX12_whyNot n s3 169 w4.2.1 (1 : Int32)) (fun r6 s7 => if ¬ r6 = 0 then fX12_passing_J46 n s7 w4.2.1 w4.1 (0 : Int32) else fX12_passing_J39 n s7 w4.2.1 w4.1))
theorem tX12_passing_B4 {n : Nat} {c : Nat × Nat} {w4 : Int32 × Int32 × zs} {o : _} {v : Option Value} {S' : zi_S} (h : fX12_passing_B4 n w4 = some o) (hn : ∀ w4, o = Sum.inl w4 → zr kX12_passing 1 10 4 [some (.ref 161), some (.int w4.1), some (.int w4.2.1)] [] (zS c w4.2.2) v S') (hx : ∀ z, o = Sum.inr z → (fun z => zr kX12_passing 1 10 54 [none, some (.int z.1), none] [] (zS c z.2) v S') z) : zr kX12_passing 1 10 4 [some (.ref 161), some (.int w4.1), some (.int w4.2.1)] [] (zS c w4.2.2) v S' := by
  unfold fX12_passing_B4 at h
  refine zr_many 2 (pc' := 6) (L' := [some (.ref 161), some (.int w4.1), some (.int w4.2.1)]) (st' := [.ref 161, .int w4.2.1]) (S1 := zS c w4.2.2) rfl ?_
  refine zq_get rfl (zh_161 _) rfl rfl rfl ?_
  refine zq_if2 (b := (w4.2.2.1 161 5) ≤ w4.2.1) rfl Iff.rfl rfl (fun g1 => ?_) (fun g1 => ?_)
  · rw [if_pos g1] at h
    obtain rfl := Option.some.inj h
    exact zr_wk [none, some (.int w4.1), none] ⟨rfl, trivial⟩ (hx (w4.1, w4.2.2) rfl)
  · rw [if_neg g1] at h
    refine zr_many 3 (pc' := 15) (L' := [some (.ref 161), some (.int w4.1), some (.int w4.2.1)]) (st' := [.ref 161, .ref 161, .int w4.1]) (S1 := zS c w4.2.2) rfl ?_
    refine zq_get rfl (zh_161 _) rfl rfl rfl ?_
    refine zr_many 2 (pc' := 20) (L' := [some (.ref 161), some (.int w4.1), some (.int w4.2.1)]) (st' := [.int (0 : Int32), .int w4.2.1, .ref 169, .ref 161, .int w4.1]) (S1 := zS c w4.2.2) rfl ?_
    obtain ⟨r2, s3, g4, h⟩ := zb_inv h
    refine zq_call1 rfl rfl (zh_161 _) rfl rfl rfl (tX12_whyNot zR_n g4) rfl ?_
    refine zq_if1 (b := r2 = 0) rfl Iff.rfl rfl (fun g5 => ?_) (fun g5 => ?_)
    · rw [if_pos g5] at h
      exact zr_wk [some (.ref 161), none, some (.int w4.2.1)] ⟨rfl, rfl, trivial⟩ (tX12_passing_J39 h hn hx)
    · rw [if_neg g5] at h
      refine zr_many 2 (pc' := 28) (L' := [some (.ref 161), some (.int w4.1), some (.int w4.2.1)]) (st' := [.ref 161, .ref 161, .int w4.1]) (S1 := zS c s3) rfl ?_
      refine zq_get rfl (zh_161 _) rfl rfl rfl ?_
      refine zr_many 2 (pc' := 33) (L' := [some (.ref 161), some (.int w4.1), some (.int w4.2.1)]) (st' := [.int (1 : Int32), .int w4.2.1, .ref 169, .ref 161, .int w4.1]) (S1 := zS c s3) rfl ?_
      obtain ⟨r6, s7, g8, h⟩ := zb_inv h
      refine zq_call1 rfl rfl (zh_161 _) rfl rfl rfl (tX12_whyNot zR_n g8) rfl ?_
      refine zq_if1 (b := ¬ r6 = 0) rfl Iff.rfl rfl (fun g9 => ?_) (fun g9 => ?_)
      · rw [if_pos g9] at h
        refine zr_many 1 (pc' := 46) (L' := [some (.ref 161), some (.int w4.1), some (.int w4.2.1)]) (st' := [.int (0 : Int32), .int w4.1]) (S1 := zS c s7) rfl ?_
        exact zr_wk [some (.ref 161), none, some (.int w4.2.1)] ⟨rfl, rfl, trivial⟩ (tX12_passing_J46 h hn hx)
      · rw [if_neg g9] at h
        exact zr_wk [some (.ref 161), none, some (.int w4.2.1)] ⟨rfl, rfl, trivial⟩ (tX12_passing_J39 h hn hx)
def fX12_passing (n : Nat) (s : zs) : Option (Int32 × zs) := zp (zl (fX12_passing_B4 n) n ((0 : Int32), (0 : Int32), s)) (fun w10 => some (w10.1, w10.2))
theorem tX12_passing {n : Nat} {c : Nat × Nat} {s : zs} {r : Int32} {s' : zs} (h : fX12_passing n s = some (r, s')) : zc 11 2492 [.ref 161] (zS c s) (some (.int r)) (zS c s') := by
  refine zc_of (k := kX12_passing) (rt := 1) (L := [some (.ref 161), none, none]) zm_2492.1 rfl rfl (by decide) rfl rfl ?_
  unfold fX12_passing at h
  refine zr_many 4 (pc' := 4) (L' := [some (.ref 161), some (.int (0 : Int32)), some (.int (0 : Int32))]) (st' := []) (S1 := zS c s) rfl ?_
  obtain ⟨w10, g11, h⟩ := zp_inv h
  refine zr_wk [some (.ref 161), some (.int (0 : Int32)), some (.int (0 : Int32))] ⟨rfl, rfl, rfl, trivial⟩ (zl_cert (Z := fun w4 => zr kX12_passing 1 10 4 [some (.ref 161), some (.int w4.1), some (.int w4.2.1)] [] (zS c w4.2.2) _ _) (Y := (fun z => zr kX12_passing 1 10 54 [none, some (.int z.1), none] [] (zS c z.2) _ _)) (fun w o h1 h2 h3 => tX12_passing_B4 h1 h2 h3) n _ _ g11 ?_)
  show zr kX12_passing 1 10 54 [none, some (.int w10.1), none] [] (zS c w10.2) _ _
  refine zr_many 1 (pc' := 55) (L' := [none, some (.int w10.1), none]) (st' := [.int w10.1]) (S1 := zS c w10.2) rfl ?_
  obtain ⟨rfl, rfl⟩ := Prod.mk.inj (Option.some.inj h)
  exact zq_iret rfl
def fX12_jams_J91 (n : Nat) (s : zs) (x1 : Int32) (x2 : Int32) (x3 : Int32) (x4 : Int32) (x5 : Int32) (x6 : Int32) (x7 : Int32) : Option ((Int32 × Int32 × Int32 × Int32 × zs) ⊕ (Int32 × Int32 × Int32 × zs)) := some (Sum.inl (x3, x4, x5, (x7 + (1 : Int32)), s))
theorem tX12_jams_J91 {n : Nat} {c : Nat × Nat} {s : zs} {x1 : Int32} {x2 : Int32} {x3 : Int32} {x4 : Int32} {x5 : Int32} {x6 : Int32} {x7 : Int32} {o : _} {v : Option Value} {S' : zi_S} (h : fX12_jams_J91 n s x1 x2 x3 x4 x5 x6 x7 = some o) (hn : ∀ w39, o = Sum.inl w39 → zr kX12_jams 1 11 39 [some (.ref 161), some (.int x1), some (.int x2), some (.int w39.1), some (.int w39.2.1), some (.int w39.2.2.1), some (.int x6), some (.int w39.2.2.2.1), none] [] (zS c w39.2.2.2.2) v S') (hx : ∀ z, o = Sum.inr z → (fun z => zr kX12_jams 1 11 97 [some (.ref 161), some (.int x1), some (.int x2), some (.int z.1), some (.int z.2.1), some (.int z.2.2.1), some (.int x6), none, none] [] (zS c z.2.2.2) v S') z) : zr kX12_jams 1 11 91 [some (.ref 161), some (.int x1), some (.int x2), some (.int x3), some (.int x4), some (.int x5), some (.int x6), some (.int x7), none] [] (zS c s) v S' := by
  unfold fX12_jams_J91 at h
  refine zr_many 2 (pc' := 39) (L' := [some (.ref 161), some (.int x1), some (.int x2), some (.int x3), some (.int x4), some (.int x5), some (.int x6), some (.int (x7 + (1 : Int32))), none]) (st' := []) (S1 := zS c s) rfl ?_
  obtain rfl := Option.some.inj h
  exact zr_wk [some (.ref 161), some (.int x1), some (.int x2), some (.int x3), some (.int x4), some (.int x5), some (.int x6), some (.int (x7 + (1 : Int32))), none] ⟨rfl, rfl, rfl, rfl, rfl, rfl, rfl, rfl, trivial⟩ (hn (x3, x4, x5, (x7 + (1 : Int32)), s) rfl)
def fX12_jams_B39 (n : Nat) (x1 : Int32) (x2 : Int32) (x6 : Int32) (w39 : Int32 × Int32 × Int32 × Int32 × zs) : Option ((Int32 × Int32 × Int32 × Int32 × zs) ⊕ (Int32 × Int32 × Int32 × zs)) := if (26 : Int32) ≤ w39.2.2.2.1 then some (Sum.inr (w39.1, w39.2.1, w39.2.2.1, w39.2.2.2.2)) else zb (fX12_passing n (zsi w39.2.2.2.2 161 6 ((x1 ||| ((1 : Int32) <<< (x6 &&& 31))) ||| ((1 : Int32) <<< (w39.2.2.2.1 &&& 31))))) (fun r6 s7 => zp (fJ6_bitCount_0f7a4 n s7 (x2 &&& (r6 ^^^ (-1 : Int32)))) (fun r9 => if r9 ≤ w39.1 then fX12_jams_J91 n s7 x1 x2 w39.1 w39.2.1 w39.2.2.1 x6 w39.2.2.2.1 else fX12_jams_J91 n s7 x1 x2 r9 x6 w39.2.2.2.1 x6 w39.2.2.2.1))
theorem tX12_jams_B39 {n : Nat} {c : Nat × Nat} {x1 : Int32} {x2 : Int32} {x6 : Int32} {w39 : Int32 × Int32 × Int32 × Int32 × zs} {o : _} {v : Option Value} {S' : zi_S} (h : fX12_jams_B39 n x1 x2 x6 w39 = some o) (hn : ∀ w39, o = Sum.inl w39 → zr kX12_jams 1 11 39 [some (.ref 161), some (.int x1), some (.int x2), some (.int w39.1), some (.int w39.2.1), some (.int w39.2.2.1), some (.int x6), some (.int w39.2.2.2.1), none] [] (zS c w39.2.2.2.2) v S') (hx : ∀ z, o = Sum.inr z → (fun z => zr kX12_jams 1 11 97 [some (.ref 161), some (.int x1), some (.int x2), some (.int z.1), some (.int z.2.1), some (.int z.2.2.1), some (.int x6), none, none] [] (zS c z.2.2.2) v S') z) : zr kX12_jams 1 11 39 [some (.ref 161), some (.int x1), some (.int x2), some (.int w39.1), some (.int w39.2.1), some (.int w39.2.2.1), some (.int x6), some (.int w39.2.2.2.1), none] [] (zS c w39.2.2.2.2) v S' := by
  unfold fX12_jams_B39 at h
  refine zr_many 2 (pc' := 43) (L' := [some (.ref 161), some (.int x1), some (.int x2), some (.int w39.1), some (.int w39.2.1), some (.int w39.2.2.1), some (.int x6), some (.int w39.2.2.2.1), none]) (st' := [.int (26 : Int32), .int w39.2.2.2.1]) (S1 := zS c w39.2.2.2.2) rfl ?_
  refine zq_if2 (b := (26 : Int32) ≤ w39.2.2.2.1) rfl Iff.rfl rfl (fun g5 => ?_) (fun g5 => ?_)
  · rw [if_pos g5] at h
    obtain rfl := Option.some.inj h
    exact zr_wk [some (.ref 161), some (.int x1), some (.int x2), some (.int w39.1), some (.int w39.2.1), some (.int w39.2.2.1), some (.int x6), none, none] ⟨rfl, rfl, rfl, rfl, rfl, rfl, rfl, trivial⟩ (hx (w39.1, w39.2.1, w39.2.2.1, w39.2.2.2.2) rfl)
  · rw [if_neg g5] at h
    refine zr_many 10 (pc' := 58) (L' := [some (.ref 161), some (.int x1), some (.int x2), some (.int w39.1), some (.int w39.2.1), some (.int w39.2.2.1), some (.int x6), some (.int w39.2.2.2.1), none]) (st' := [.int ((x1 ||| ((1 : Int32) <<< (x6 &&& 31))) ||| ((1 : Int32) <<< (w39.2.2.2.1 &&& 31))), .ref 161]) (S1 := zS c w39.2.2.2.2) rfl ?_
    refine zq_put (s' := (zsi w39.2.2.2.2 161 6 ((x1 ||| ((1 : Int32) <<< (x6 &&& 31))) ||| ((1 : Int32) <<< (w39.2.2.2.1 &&& 31))))) rfl (zh_161 _) rfl rfl rfl rfl zsi_ne rfl ?_
    refine zr_many 2 (pc' := 63) (L' := [some (.ref 161), some (.int x1), some (.int x2), some (.int w39.1), some (.int w39.2.1), some (.int w39.2.2.1), some (.int x6), some (.int w39.2.2.2.1), none]) (st' := [.ref 161, .int x2]) (S1 := zS c (zsi w39.2.2.2.2 161 6 ((x1 ||| ((1 : Int32) <<< (x6 &&& 31))) ||| ((1 : Int32) <<< (w39.2.2.2.1 &&& 31))))) rfl ?_
    obtain ⟨r6, s7, g8, h⟩ := zb_inv h
    refine zq_call1 rfl rfl (zh_161 _) rfl rfl rfl (tX12_passing g8) rfl ?_
    refine zr_many 3 (pc' := 69) (L' := [some (.ref 161), some (.int x1), some (.int x2), some (.int w39.1), some (.int w39.2.1), some (.int w39.2.2.1), some (.int x6), some (.int w39.2.2.2.1), none]) (st' := [.int (x2 &&& (r6 ^^^ (-1 : Int32)))]) (S1 := zS c s7) rfl ?_
    obtain ⟨r9, g11, h⟩ := zp_inv h
    refine zq_scall1 rfl (by decide) rfl rfl ((tJ6_bitCount_0f7a4 g11).up (by decide)) rfl ?_
    refine zr_many 3 (pc' := 77) (L' := [some (.ref 161), some (.int x1), some (.int x2), some (.int w39.1), some (.int w39.2.1), some (.int w39.2.2.1), some (.int x6), some (.int w39.2.2.2.1), some (.int r9)]) (st' := [.int w39.1, .int r9]) (S1 := zS c s7) rfl ?_
    refine zq_if2 (b := r9 ≤ w39.1) rfl Iff.rfl rfl (fun g12 => ?_) (fun g12 => ?_)
    · rw [if_pos g12] at h
      exact zr_wk [some (.ref 161), some (.int x1), some (.int x2), some (.int w39.1), some (.int w39.2.1), some (.int w39.2.2.1), some (.int x6), some (.int w39.2.2.2.1), none] ⟨rfl, rfl, rfl, rfl, rfl, rfl, rfl, rfl, trivial⟩ (tX12_jams_J91 h hn hx)
    · rw [if_neg g12] at h
      refine zr_many 6 (pc' := 91) (L' := [some (.ref 161), some (.int x1), some (.int x2), some (.int r9), some (.int x6), some (.int w39.2.2.2.1), some (.int x6), some (.int w39.2.2.2.1), some (.int r9)]) (st' := []) (S1 := zS c s7) rfl ?_
      exact zr_wk [some (.ref 161), some (.int x1), some (.int x2), some (.int r9), some (.int x6), some (.int w39.2.2.2.1), some (.int x6), some (.int w39.2.2.2.1), none] ⟨rfl, rfl, rfl, rfl, rfl, rfl, rfl, rfl, trivial⟩ (tX12_jams_J91 h hn hx)
def fX12_jams_B26 (n : Nat) (x1 : Int32) (x2 : Int32) (w26 : Int32 × Int32 × Int32 × Int32 × zs) : Option ((Int32 × Int32 × Int32 × Int32 × zs) ⊕ (Int32 × Int32 × Int32 × zs)) := if (26 : Int32) ≤ w26.2.2.2.1 then some (Sum.inr (w26.1, w26.2.1, w26.2.2.1, w26.2.2.2.2)) else zp (zl (fX12_jams_B39 n x1 x2 w26.2.2.2.1) n (w26.1, w26.2.1, w26.2.2.1, (w26.2.2.2.1 + (1 : Int32)), w26.2.2.2.2)) (fun w13 => some (Sum.inl (w13.1, w13.2.1, w13.2.2.1, (w26.2.2.2.1 + (1 : Int32)), w13.2.2.2)))
theorem tX12_jams_B26 {n : Nat} {c : Nat × Nat} {x1 : Int32} {x2 : Int32} {w26 : Int32 × Int32 × Int32 × Int32 × zs} {o : _} {v : Option Value} {S' : zi_S} (h : fX12_jams_B26 n x1 x2 w26 = some o) (hn : ∀ w26, o = Sum.inl w26 → zr kX12_jams 1 11 26 [some (.ref 161), some (.int x1), some (.int x2), some (.int w26.1), some (.int w26.2.1), some (.int w26.2.2.1), some (.int w26.2.2.2.1), none, none] [] (zS c w26.2.2.2.2) v S') (hx : ∀ z, o = Sum.inr z → (fun z => zr kX12_jams 1 11 103 [some (.ref 161), some (.int x1), none, some (.int z.1), some (.int z.2.1), some (.int z.2.2.1), none, none, none] [] (zS c z.2.2.2) v S') z) : zr kX12_jams 1 11 26 [some (.ref 161), some (.int x1), some (.int x2), some (.int w26.1), some (.int w26.2.1), some (.int w26.2.2.1), some (.int w26.2.2.2.1), none, none] [] (zS c w26.2.2.2.2) v S' := by
  unfold fX12_jams_B26 at h
  refine zr_many 2 (pc' := 30) (L' := [some (.ref 161), some (.int x1), some (.int x2), some (.int w26.1), some (.int w26.2.1), some (.int w26.2.2.1), some (.int w26.2.2.2.1), none, none]) (st' := [.int (26 : Int32), .int w26.2.2.2.1]) (S1 := zS c w26.2.2.2.2) rfl ?_
  refine zq_if2 (b := (26 : Int32) ≤ w26.2.2.2.1) rfl Iff.rfl rfl (fun g4 => ?_) (fun g4 => ?_)
  · rw [if_pos g4] at h
    obtain rfl := Option.some.inj h
    exact zr_wk [some (.ref 161), some (.int x1), none, some (.int w26.1), some (.int w26.2.1), some (.int w26.2.2.1), none, none, none] ⟨rfl, rfl, rfl, rfl, rfl, trivial⟩ (hx (w26.1, w26.2.1, w26.2.2.1, w26.2.2.2.2) rfl)
  · rw [if_neg g4] at h
    refine zr_many 4 (pc' := 39) (L' := [some (.ref 161), some (.int x1), some (.int x2), some (.int w26.1), some (.int w26.2.1), some (.int w26.2.2.1), some (.int w26.2.2.2.1), some (.int (w26.2.2.2.1 + (1 : Int32))), none]) (st' := []) (S1 := zS c w26.2.2.2.2) rfl ?_
    obtain ⟨w13, g14, h⟩ := zp_inv h
    refine zr_wk [some (.ref 161), some (.int x1), some (.int x2), some (.int w26.1), some (.int w26.2.1), some (.int w26.2.2.1), some (.int w26.2.2.2.1), some (.int (w26.2.2.2.1 + (1 : Int32))), none] ⟨rfl, rfl, rfl, rfl, rfl, rfl, rfl, rfl, trivial⟩ (zl_cert (Z := fun w39 => zr kX12_jams 1 11 39 [some (.ref 161), some (.int x1), some (.int x2), some (.int w39.1), some (.int w39.2.1), some (.int w39.2.2.1), some (.int w26.2.2.2.1), some (.int w39.2.2.2.1), none] [] (zS c w39.2.2.2.2) _ _) (Y := (fun z => zr kX12_jams 1 11 97 [some (.ref 161), some (.int x1), some (.int x2), some (.int z.1), some (.int z.2.1), some (.int z.2.2.1), some (.int w26.2.2.2.1), none, none] [] (zS c z.2.2.2) _ _)) (fun w o h1 h2 h3 => tX12_jams_B39 h1 h2 h3) n _ _ g14 ?_)
    show zr kX12_jams 1 11 97 [some (.ref 161), some (.int x1), some (.int x2), some (.int w13.1), some (.int w13.2.1), some (.int w13.2.2.1), some (.int w26.2.2.2.1), none, none] [] (zS c w13.2.2.2) _ _
    refine zr_many 2 (pc' := 26) (L' := [some (.ref 161), some (.int x1), some (.int x2), some (.int w13.1), some (.int w13.2.1), some (.int w13.2.2.1), some (.int (w26.2.2.2.1 + (1 : Int32))), none, none]) (st' := []) (S1 := zS c w13.2.2.2) rfl ?_
    obtain rfl := Option.some.inj h
    exact zr_wk [some (.ref 161), some (.int x1), some (.int x2), some (.int w13.1), some (.int w13.2.1), some (.int w13.2.2.1), some (.int (w26.2.2.2.1 + (1 : Int32))), none, none] ⟨rfl, rfl, rfl, rfl, rfl, rfl, rfl, trivial⟩ (hn (w13.1, w13.2.1, w13.2.2.1, (w26.2.2.2.1 + (1 : Int32)), w13.2.2.2) rfl)
def fX12_jams (n : Nat) (s : zs) : Option (Int32 × zs) := zb (fX12_passing n (zsi s 161 0 (0 : Int32))) (fun r1 s2 => zp (zl (fX12_jams_B26 n ((zsi s 161 0 (0 : Int32)).1 161 6) r1) n ((-1 : Int32), (0 : Int32), (0 : Int32), (0 : Int32), s2)) (fun w15 => zt (zsi w15.2.2.2 161 6 ((zsi s 161 0 (0 : Int32)).1 161 6)) (fun s16 => zp (fX12_enters n (zsi s16 161 1 (0 : Int32)) w15.2.1.toInt64) (fun s19 => zp (fX12_enters n s19 w15.2.2.1.toInt64) (fun s22 => some (w15.1, s22))))))
theorem tX12_jams {n : Nat} {c : Nat × Nat} {s : zs} {r : Int32} {s' : zs} (h : fX12_jams n s = some (r, s')) : zc 12 2493 [.ref 161] (zS c s) (some (.int r)) (zS c s') := by
  refine zc_of (k := kX12_jams) (rt := 1) (L := [some (.ref 161), none, none, none, none, none, none, none, none]) zm_2493.1 rfl rfl (by decide) rfl rfl ?_
  unfold fX12_jams at h
  refine zr_many 2 (pc' := 2) (L' := [some (.ref 161), none, none, none, none, none, none, none, none]) (st' := [.int (0 : Int32), .ref 161]) (S1 := zS c s) rfl ?_
  refine zq_put (s' := (zsi s 161 0 (0 : Int32))) rfl (zh_161 _) rfl rfl rfl rfl zsi_ne rfl ?_
  refine zr_many 1 (pc' := 6) (L' := [some (.ref 161), none, none, none, none, none, none, none, none]) (st' := [.ref 161]) (S1 := zS c (zsi s 161 0 (0 : Int32))) rfl ?_
  refine zq_get rfl (zh_161 _) rfl rfl rfl ?_
  refine zr_many 2 (pc' := 11) (L' := [some (.ref 161), some (.int ((zsi s 161 0 (0 : Int32)).1 161 6)), none, none, none, none, none, none, none]) (st' := [.ref 161]) (S1 := zS c (zsi s 161 0 (0 : Int32))) rfl ?_
  obtain ⟨r1, s2, g3, h⟩ := zb_inv h
  refine zq_call1 rfl rfl (zh_161 _) rfl rfl rfl (tX12_passing g3) rfl ?_
  refine zr_many 9 (pc' := 26) (L' := [some (.ref 161), some (.int ((zsi s 161 0 (0 : Int32)).1 161 6)), some (.int r1), some (.int (-1 : Int32)), some (.int (0 : Int32)), some (.int (0 : Int32)), some (.int (0 : Int32)), none, none]) (st' := []) (S1 := zS c s2) rfl ?_
  obtain ⟨w15, g24, h⟩ := zp_inv h
  refine zr_wk [some (.ref 161), some (.int ((zsi s 161 0 (0 : Int32)).1 161 6)), some (.int r1), some (.int (-1 : Int32)), some (.int (0 : Int32)), some (.int (0 : Int32)), some (.int (0 : Int32)), none, none] ⟨rfl, rfl, rfl, rfl, rfl, rfl, rfl, trivial⟩ (zl_cert (Z := fun w26 => zr kX12_jams 1 11 26 [some (.ref 161), some (.int ((zsi s 161 0 (0 : Int32)).1 161 6)), some (.int r1), some (.int w26.1), some (.int w26.2.1), some (.int w26.2.2.1), some (.int w26.2.2.2.1), none, none] [] (zS c w26.2.2.2.2) _ _) (Y := (fun z => zr kX12_jams 1 11 103 [some (.ref 161), some (.int ((zsi s 161 0 (0 : Int32)).1 161 6)), none, some (.int z.1), some (.int z.2.1), some (.int z.2.2.1), none, none, none] [] (zS c z.2.2.2) _ _)) (fun w o h1 h2 h3 => tX12_jams_B26 h1 h2 h3) n _ _ g24 ?_)
  show zr kX12_jams 1 11 103 [some (.ref 161), some (.int ((zsi s 161 0 (0 : Int32)).1 161 6)), none, some (.int w15.1), some (.int w15.2.1), some (.int w15.2.2.1), none, none, none] [] (zS c w15.2.2.2) _ _
  refine zr_many 2 (pc' := 105) (L' := [some (.ref 161), some (.int ((zsi s 161 0 (0 : Int32)).1 161 6)), none, some (.int w15.1), some (.int w15.2.1), some (.int w15.2.2.1), none, none, none]) (st' := [.int ((zsi s 161 0 (0 : Int32)).1 161 6), .ref 161]) (S1 := zS c w15.2.2.2) rfl ?_
  refine zq_put (s' := (zsi w15.2.2.2 161 6 ((zsi s 161 0 (0 : Int32)).1 161 6))) rfl (zh_161 _) rfl rfl rfl rfl zsi_ne rfl ?_
  refine zr_many 2 (pc' := 110) (L' := [some (.ref 161), some (.int ((zsi s 161 0 (0 : Int32)).1 161 6)), none, some (.int w15.1), some (.int w15.2.1), some (.int w15.2.2.1), none, none, none]) (st' := [.int (0 : Int32), .ref 161]) (S1 := zS c (zsi w15.2.2.2 161 6 ((zsi s 161 0 (0 : Int32)).1 161 6))) rfl ?_
  obtain ⟨s16, e17, h⟩ := zt_in h
  rw [← e17]
  refine zq_put (s' := (zsi s16 161 1 (0 : Int32))) rfl (zh_161 _) rfl rfl rfl rfl zsi_ne rfl ?_
  refine zr_many 3 (pc' := 117) (L' := [some (.ref 161), some (.int ((zsi s 161 0 (0 : Int32)).1 161 6)), none, some (.int w15.1), some (.int w15.2.1), some (.int w15.2.2.1), none, none, none]) (st' := [.long w15.2.1.toInt64, .ref 161]) (S1 := zS c (zsi s16 161 1 (0 : Int32))) rfl ?_
  obtain ⟨s19, g20, h⟩ := zp_inv h
  refine zq_call0 rfl rfl (zh_161 _) rfl rfl rfl ((tX12_enters g20).up (by decide)) rfl ?_
  refine zr_many 3 (pc' := 124) (L' := [some (.ref 161), some (.int ((zsi s 161 0 (0 : Int32)).1 161 6)), none, some (.int w15.1), some (.int w15.2.1), some (.int w15.2.2.1), none, none, none]) (st' := [.long w15.2.2.1.toInt64, .ref 161]) (S1 := zS c s19) rfl ?_
  obtain ⟨s22, g23, h⟩ := zp_inv h
  refine zq_call0 rfl rfl (zh_161 _) rfl rfl rfl ((tX12_enters g23).up (by decide)) rfl ?_
  refine zr_many 1 (pc' := 128) (L' := [some (.ref 161), some (.int ((zsi s 161 0 (0 : Int32)).1 161 6)), none, some (.int w15.1), some (.int w15.2.1), some (.int w15.2.2.1), none, none, none]) (st' := [.int w15.1]) (S1 := zS c s22) rfl ?_
  obtain ⟨rfl, rfl⟩ := Prod.mk.inj (Option.some.inj h)
  exact zq_iret rfl
def fX12_heard_J36 (n : Nat) (s : zs) : Option (Int32 × zs) := some ((-1 : Int32), s)
theorem tX12_heard_J36 {n : Nat} {c : Nat × Nat} {s : zs} {r : Int32} {s' : zs} (h : fX12_heard_J36 n s = some (r, s')) : zr kX12_heard 1 1 36 [none, none, none] [] (zS c s) (some (.int r)) (zS c s') := by
  unfold fX12_heard_J36 at h
  refine zr_many 1 (pc' := 37) (L' := [none, none, none]) (st' := [.int (-1 : Int32)]) (S1 := zS c s) rfl ?_
  obtain ⟨rfl, rfl⟩ := Prod.mk.inj (Option.some.inj h)
  exact zq_iret rfl
def fX12_heard (n : Nat) (s : zs) (x1 : Int32) (x2 : Int32) : Option (Int32 × zs) := zp (fX12_in n (zsi s 161 0 (0 : Int32)) x1.toInt64 (0 : Int64) (25 : Int64)) (fun r1 => if r1 = 0 then fX12_heard_J36 n (zsi s 161 0 (0 : Int32)) else zp (fX12_in n (zsi s 161 0 (0 : Int32)) x2.toInt64 (0 : Int64) (1 : Int64)) (fun r5 => if r5 = 0 then fX12_heard_J36 n (zsi s 161 0 (0 : Int32)) else if ¬ ((zsi s 161 0 (0 : Int32)).1 161 45) = (12 : Int32) then zt (zsi s 161 0 (0 : Int32)) (fun s10 => cond (zi_in (s10.1 161 45) 12) (zt (zsi s10 186 (s10.1 161 45).toNatClampNeg x1) (fun s12 => cond (zi_in (s12.1 161 45) 12) (zt (zsi s12 187 (s12.1 161 45).toNatClampNeg x2) (fun s14 => some (((zsi s14 161 45 ((s14.1 161 45) + (1 : Int32))).1 161 45), (zsi s14 161 45 ((s14.1 161 45) + (1 : Int32)))))) none)) none) else fX12_heard_J36 n (zsi s 161 0 (0 : Int32))))
theorem tX12_heard {n : Nat} {c : Nat × Nat} {s : zs} {x1 : Int32} {x2 : Int32} {r : Int32} {s' : zs} (h : fX12_heard n s x1 x2 = some (r, s')) : zc 2 2494 [.ref 161, .int x1, .int x2] (zS c s) (some (.int r)) (zS c s') := by
  refine zc_of (k := kX12_heard) (rt := 1) (L := [some (.ref 161), some (.int x1), some (.int x2)]) zm_2494.1 rfl rfl (by decide) rfl rfl ?_
  unfold fX12_heard at h
  refine zr_many 2 (pc' := 2) (L' := [some (.ref 161), some (.int x1), some (.int x2)]) (st' := [.int (0 : Int32), .ref 161]) (S1 := zS c s) rfl ?_
  refine zq_put (s' := (zsi s 161 0 (0 : Int32))) rfl (zh_161 _) rfl rfl rfl rfl zsi_ne rfl ?_
  refine zr_many 4 (pc' := 11) (L' := [some (.ref 161), some (.int x1), some (.int x2)]) (st' := [.long (25 : Int64), .long (0 : Int64), .long x1.toInt64]) (S1 := zS c (zsi s 161 0 (0 : Int32))) rfl ?_
  obtain ⟨r1, g3, h⟩ := zp_inv h
  refine zq_scall1 rfl (by decide) rfl rfl (tX12_in g3) rfl ?_
  refine zq_if1 (b := r1 = 0) rfl Iff.rfl rfl (fun g4 => ?_) (fun g4 => ?_)
  · rw [if_pos g4] at h
    exact zr_wk [none, none, none] trivial (tX12_heard_J36 h)
  · rw [if_neg g4] at h
    refine zr_many 4 (pc' := 21) (L' := [some (.ref 161), some (.int x1), some (.int x2)]) (st' := [.long (1 : Int64), .long (0 : Int64), .long x2.toInt64]) (S1 := zS c (zsi s 161 0 (0 : Int32))) rfl ?_
    obtain ⟨r5, g7, h⟩ := zp_inv h
    refine zq_scall1 rfl (by decide) rfl rfl (tX12_in g7) rfl ?_
    refine zq_if1 (b := r5 = 0) rfl Iff.rfl rfl (fun g8 => ?_) (fun g8 => ?_)
    · rw [if_pos g8] at h
      exact zr_wk [none, none, none] trivial (tX12_heard_J36 h)
    · rw [if_neg g8] at h
      refine zr_many 1 (pc' := 28) (L' := [some (.ref 161), some (.int x1), some (.int x2)]) (st' := [.ref 161]) (S1 := zS c (zsi s 161 0 (0 : Int32))) rfl ?_
      refine zq_get rfl (zh_161 _) rfl rfl rfl ?_
      refine zr_many 1 (pc' := 33) (L' := [some (.ref 161), some (.int x1), some (.int x2)]) (st' := [.int (12 : Int32), .int ((zsi s 161 0 (0 : Int32)).1 161 45)]) (S1 := zS c (zsi s 161 0 (0 : Int32))) rfl ?_
      refine zq_if2 (b := ¬ ((zsi s 161 0 (0 : Int32)).1 161 45) = (12 : Int32)) rfl Iff.rfl rfl (fun g9 => ?_) (fun g9 => ?_)
      · rw [if_pos g9] at h
        refine zr_many 1 (pc' := 39) (L' := [some (.ref 161), some (.int x1), some (.int x2)]) (st' := [.ref 161]) (S1 := zS c (zsi s 161 0 (0 : Int32))) rfl ?_
        refine zq_get rfl (zh_161 _) rfl rfl rfl ?_
        refine zr_many 1 (pc' := 43) (L' := [some (.ref 161), some (.int x1), some (.int x2)]) (st' := [.ref 161, .ref 186]) (S1 := zS c (zsi s 161 0 (0 : Int32))) rfl ?_
        refine zq_get rfl (zh_161 _) rfl rfl rfl ?_
        refine zr_many 1 (pc' := 47) (L' := [some (.ref 161), some (.int x1), some (.int x2)]) (st' := [.int x1, .int ((zsi s 161 0 (0 : Int32)).1 161 45), .ref 186]) (S1 := zS c (zsi s 161 0 (0 : Int32))) rfl ?_
        obtain ⟨s10, e11, h⟩ := zt_in h
        rw [← e11]
        obtain ⟨g16, h⟩ := zi_cond_inv h
        refine zq_ist rfl zh_186 rfl g16 rfl ?_
        refine zr_many 1 (pc' := 49) (L' := [some (.ref 161), some (.int x1), some (.int x2)]) (st' := [.ref 161]) (S1 := zS c (zsi s10 186 (s10.1 161 45).toNatClampNeg x1)) rfl ?_
        refine zq_get rfl (zh_161 _) rfl rfl rfl ?_
        refine zr_many 1 (pc' := 53) (L' := [some (.ref 161), some (.int x1), some (.int x2)]) (st' := [.ref 161, .ref 187]) (S1 := zS c (zsi s10 186 (s10.1 161 45).toNatClampNeg x1)) rfl ?_
        refine zq_get rfl (zh_161 _) rfl rfl rfl ?_
        refine zr_many 1 (pc' := 57) (L' := [some (.ref 161), some (.int x1), some (.int x2)]) (st' := [.int x2, .int ((zsi s10 186 (s10.1 161 45).toNatClampNeg x1).1 161 45), .ref 187]) (S1 := zS c (zsi s10 186 (s10.1 161 45).toNatClampNeg x1)) rfl ?_
        obtain ⟨s12, e13, h⟩ := zt_in h
        rw [← e13]
        obtain ⟨g17, h⟩ := zi_cond_inv h
        refine zq_ist rfl zh_187 rfl g17 rfl ?_
        refine zr_many 2 (pc' := 60) (L' := [some (.ref 161), some (.int x1), some (.int x2)]) (st' := [.ref 161, .ref 161]) (S1 := zS c (zsi s12 187 (s12.1 161 45).toNatClampNeg x2)) rfl ?_
        refine zq_get rfl (zh_161 _) rfl rfl rfl ?_
        refine zr_many 2 (pc' := 65) (L' := [some (.ref 161), some (.int x1), some (.int x2)]) (st' := [.int (((zsi s12 187 (s12.1 161 45).toNatClampNeg x2).1 161 45) + (1 : Int32)), .ref 161]) (S1 := zS c (zsi s12 187 (s12.1 161 45).toNatClampNeg x2)) rfl ?_
        obtain ⟨s14, e15, h⟩ := zt_in h
        rw [← e15]
        refine zq_put (s' := (zsi s14 161 45 ((s14.1 161 45) + (1 : Int32)))) rfl (zh_161 _) rfl rfl rfl rfl zsi_ne rfl ?_
        refine zr_many 1 (pc' := 69) (L' := [some (.ref 161), some (.int x1), some (.int x2)]) (st' := [.ref 161]) (S1 := zS c (zsi s14 161 45 ((s14.1 161 45) + (1 : Int32)))) rfl ?_
        refine zq_get rfl (zh_161 _) rfl rfl rfl ?_
        obtain ⟨rfl, rfl⟩ := Prod.mk.inj (Option.some.inj h)
        exact zq_iret rfl
      · rw [if_neg g9] at h
        exact zr_wk [none, none, none] trivial (tX12_heard_J36 h)
def fX12_forget (n : Nat) (s : zs) : Option (Int32 × zs) := zt (zsi s 161 0 (0 : Int32)) (fun s1 => some ((s1.1 161 45), (zsi s1 161 45 (0 : Int32))))
theorem tX12_forget {n : Nat} {c : Nat × Nat} {s : zs} {r : Int32} {s' : zs} (h : fX12_forget n s = some (r, s')) : zc 1 2495 [.ref 161] (zS c s) (some (.int r)) (zS c s') := by
  refine zc_of (k := kX12_forget) (rt := 1) (L := [some (.ref 161), none]) zm_2495.1 rfl rfl (by decide) rfl rfl ?_
  unfold fX12_forget at h
  refine zr_many 2 (pc' := 2) (L' := [some (.ref 161), none]) (st' := [.int (0 : Int32), .ref 161]) (S1 := zS c s) rfl ?_
  refine zq_put (s' := (zsi s 161 0 (0 : Int32))) rfl (zh_161 _) rfl rfl rfl rfl zsi_ne rfl ?_
  refine zr_many 1 (pc' := 6) (L' := [some (.ref 161), none]) (st' := [.ref 161]) (S1 := zS c (zsi s 161 0 (0 : Int32))) rfl ?_
  refine zq_get rfl (zh_161 _) rfl rfl rfl ?_
  refine zr_many 3 (pc' := 12) (L' := [some (.ref 161), some (.int ((zsi s 161 0 (0 : Int32)).1 161 45))]) (st' := [.int (0 : Int32), .ref 161]) (S1 := zS c (zsi s 161 0 (0 : Int32))) rfl ?_
  obtain ⟨s1, e2, h⟩ := zt_in h
  rw [← e2]
  refine zq_put (s' := (zsi s1 161 45 (0 : Int32))) rfl (zh_161 _) rfl rfl rfl rfl zsi_ne rfl ?_
  refine zr_many 1 (pc' := 16) (L' := [some (.ref 161), some (.int (s1.1 161 45))]) (st' := [.int (s1.1 161 45)]) (S1 := zS c (zsi s1 161 45 (0 : Int32))) rfl ?_
  obtain ⟨rfl, rfl⟩ := Prod.mk.inj (Option.some.inj h)
  exact zq_iret rfl
def fX12_singersOf_J42 (n : Nat) (s : zs) (x1 : Int32) (x3 : Int32) (y0 : Int32) (y1 : Int32) : Option ((Int32 × Int32) ⊕ (Int32)) := some (Sum.inl ((y0 ||| y1), (x3 + (1 : Int32))))
theorem tX12_singersOf_J42 {n : Nat} {c : Nat × Nat} {s : zs} {x1 : Int32} {x3 : Int32} {y0 : Int32} {y1 : Int32} {o : _} {v : Option Value} {S' : zi_S} (h : fX12_singersOf_J42 n s x1 x3 y0 y1 = some o) (hn : ∀ w4, o = Sum.inl w4 → zr kX12_singersOf 1 1 4 [some (.ref 161), some (.int x1), some (.int w4.1), some (.int w4.2)] [] (zS c s) v S') (hx : ∀ z, o = Sum.inr z → (fun z => zr kX12_singersOf 1 1 50 [none, none, some (.int z), none] [] (zS c s) v S') z) : zr kX12_singersOf 1 1 42 [some (.ref 161), some (.int x1), none, some (.int x3)] [.int y1, .int y0] (zS c s) v S' := by
  unfold fX12_singersOf_J42 at h
  refine zr_many 4 (pc' := 4) (L' := [some (.ref 161), some (.int x1), some (.int (y0 ||| y1)), some (.int (x3 + (1 : Int32)))]) (st' := []) (S1 := zS c s) rfl ?_
  obtain rfl := Option.some.inj h
  exact zr_wk [some (.ref 161), some (.int x1), some (.int (y0 ||| y1)), some (.int (x3 + (1 : Int32)))] ⟨rfl, rfl, rfl, rfl, trivial⟩ (hn ((y0 ||| y1), (x3 + (1 : Int32))) rfl)
def fX12_singersOf_B4 (n : Nat) (s : zs) (x1 : Int32) (w4 : Int32 × Int32) : Option ((Int32 × Int32) ⊕ (Int32)) := if (s.1 161 4) ≤ w4.2 then some (Sum.inr w4.1) else cond (zi_in w4.2 8) (cond (zi_in w4.2 8) (zp (fX12_in n s x1.toInt64 ((s.1 165 w4.2.toNatClampNeg).toInt64) ((s.1 166 w4.2.toNatClampNeg).toInt64)) (fun r4 => if r4 = 0 then fX12_singersOf_J42 n s x1 w4.2 w4.1 (0 : Int32) else fX12_singersOf_J42 n s x1 w4.2 w4.1 ((1 : Int32) <<< (w4.2 &&& 31)))) none) none
theorem tX12_singersOf_B4 {n : Nat} {c : Nat × Nat} {s : zs} {x1 : Int32} {w4 : Int32 × Int32} {o : _} {v : Option Value} {S' : zi_S} (h : fX12_singersOf_B4 n s x1 w4 = some o) (hn : ∀ w4, o = Sum.inl w4 → zr kX12_singersOf 1 1 4 [some (.ref 161), some (.int x1), some (.int w4.1), some (.int w4.2)] [] (zS c s) v S') (hx : ∀ z, o = Sum.inr z → (fun z => zr kX12_singersOf 1 1 50 [none, none, some (.int z), none] [] (zS c s) v S') z) : zr kX12_singersOf 1 1 4 [some (.ref 161), some (.int x1), some (.int w4.1), some (.int w4.2)] [] (zS c s) v S' := by
  unfold fX12_singersOf_B4 at h
  refine zr_many 2 (pc' := 6) (L' := [some (.ref 161), some (.int x1), some (.int w4.1), some (.int w4.2)]) (st' := [.ref 161, .int w4.2]) (S1 := zS c s) rfl ?_
  refine zq_get rfl (zh_161 _) rfl rfl rfl ?_
  refine zq_if2 (b := (s.1 161 4) ≤ w4.2) rfl Iff.rfl rfl (fun g1 => ?_) (fun g1 => ?_)
  · rw [if_pos g1] at h
    obtain rfl := Option.some.inj h
    exact zr_wk [none, none, some (.int w4.1), none] ⟨rfl, trivial⟩ (hx w4.1 rfl)
  · rw [if_neg g1] at h
    refine zr_many 4 (pc' := 16) (L' := [some (.ref 161), some (.int x1), some (.int w4.1), some (.int w4.2)]) (st' := [.ref 161, .long x1.toInt64, .int w4.1]) (S1 := zS c s) rfl ?_
    refine zq_get rfl (zh_161 _) rfl rfl rfl ?_
    refine zr_many 1 (pc' := 20) (L' := [some (.ref 161), some (.int x1), some (.int w4.1), some (.int w4.2)]) (st' := [.int w4.2, .ref 165, .long x1.toInt64, .int w4.1]) (S1 := zS c s) rfl ?_
    obtain ⟨g2, h⟩ := zi_cond_inv h
    refine zq_ild rfl (zh_165 _) rfl g2 rfl ?_
    refine zr_many 2 (pc' := 23) (L' := [some (.ref 161), some (.int x1), some (.int w4.1), some (.int w4.2)]) (st' := [.ref 161, .long (s.1 165 w4.2.toNatClampNeg).toInt64, .long x1.toInt64, .int w4.1]) (S1 := zS c s) rfl ?_
    refine zq_get rfl (zh_161 _) rfl rfl rfl ?_
    refine zr_many 1 (pc' := 27) (L' := [some (.ref 161), some (.int x1), some (.int w4.1), some (.int w4.2)]) (st' := [.int w4.2, .ref 166, .long (s.1 165 w4.2.toNatClampNeg).toInt64, .long x1.toInt64, .int w4.1]) (S1 := zS c s) rfl ?_
    obtain ⟨g3, h⟩ := zi_cond_inv h
    refine zq_ild rfl (zh_166 _) rfl g3 rfl ?_
    refine zr_many 1 (pc' := 29) (L' := [some (.ref 161), some (.int x1), some (.int w4.1), some (.int w4.2)]) (st' := [.long (s.1 166 w4.2.toNatClampNeg).toInt64, .long (s.1 165 w4.2.toNatClampNeg).toInt64, .long x1.toInt64, .int w4.1]) (S1 := zS c s) rfl ?_
    obtain ⟨r4, g6, h⟩ := zp_inv h
    refine zq_scall1 rfl (by decide) rfl rfl (tX12_in g6) rfl ?_
    refine zq_if1 (b := r4 = 0) rfl Iff.rfl rfl (fun g7 => ?_) (fun g7 => ?_)
    · rw [if_pos g7] at h
      refine zr_many 1 (pc' := 42) (L' := [some (.ref 161), some (.int x1), some (.int w4.1), some (.int w4.2)]) (st' := [.int (0 : Int32), .int w4.1]) (S1 := zS c s) rfl ?_
      exact zr_wk [some (.ref 161), some (.int x1), none, some (.int w4.2)] ⟨rfl, rfl, rfl, trivial⟩ (tX12_singersOf_J42 h hn hx)
    · rw [if_neg g7] at h
      refine zr_many 4 (pc' := 42) (L' := [some (.ref 161), some (.int x1), some (.int w4.1), some (.int w4.2)]) (st' := [.int ((1 : Int32) <<< (w4.2 &&& 31)), .int w4.1]) (S1 := zS c s) rfl ?_
      exact zr_wk [some (.ref 161), some (.int x1), none, some (.int w4.2)] ⟨rfl, rfl, rfl, trivial⟩ (tX12_singersOf_J42 h hn hx)
def fX12_singersOf (n : Nat) (s : zs) (x1 : Int32) : Option Int32 := zp (zl (fX12_singersOf_B4 n s x1) n ((0 : Int32), (0 : Int32))) (fun w8 => some w8)
theorem tX12_singersOf {n : Nat} {c : Nat × Nat} {s : zs} {x1 : Int32} {r : Int32} (h : fX12_singersOf n s x1 = some r) : zc 2 2496 [.ref 161, .int x1] (zS c s) (some (.int r)) (zS c s) := by
  refine zc_of (k := kX12_singersOf) (rt := 1) (L := [some (.ref 161), some (.int x1), none, none]) zm_2496.1 rfl rfl (by decide) rfl rfl ?_
  unfold fX12_singersOf at h
  refine zr_many 4 (pc' := 4) (L' := [some (.ref 161), some (.int x1), some (.int (0 : Int32)), some (.int (0 : Int32))]) (st' := []) (S1 := zS c s) rfl ?_
  obtain ⟨w8, g9, h⟩ := zp_inv h
  refine zr_wk [some (.ref 161), some (.int x1), some (.int (0 : Int32)), some (.int (0 : Int32))] ⟨rfl, rfl, rfl, rfl, trivial⟩ (zl_cert (Z := fun w4 => zr kX12_singersOf 1 1 4 [some (.ref 161), some (.int x1), some (.int w4.1), some (.int w4.2)] [] (zS c s) _ _) (Y := (fun z => zr kX12_singersOf 1 1 50 [none, none, some (.int z), none] [] (zS c s) _ _)) (fun w o h1 h2 h3 => tX12_singersOf_B4 h1 h2 h3) n _ _ g9 ?_)
  show zr kX12_singersOf 1 1 50 [none, none, some (.int w8), none] [] (zS c s) _ _
  refine zr_many 1 (pc' := 51) (L' := [none, none, some (.int w8), none]) (st' := [.int w8]) (S1 := zS c s) rfl ?_
  obtain rfl := Option.some.inj h
  exact zq_iret rfl
def fX12_fitting_J55 (n : Nat) (s : zs) (x2 : Int32) (y0 : Int32) (y1 : Int32) : Option ((Int32 × Int32) ⊕ (Int32)) := some (Sum.inl ((y0 &&& y1), (x2 + (1 : Int32))))
theorem tX12_fitting_J55 {n : Nat} {c : Nat × Nat} {s : zs} {x2 : Int32} {y0 : Int32} {y1 : Int32} {o : _} {v : Option Value} {S' : zi_S} (h : fX12_fitting_J55 n s x2 y0 y1 = some o) (hn : ∀ w11, o = Sum.inl w11 → zr kX12_fitting 1 2 11 [some (.ref 161), some (.int w11.1), some (.int w11.2)] [] (zS c s) v S') (hx : ∀ z, o = Sum.inr z → (fun z => zr kX12_fitting 1 2 63 [none, some (.int z), none] [] (zS c s) v S') z) : zr kX12_fitting 1 2 55 [some (.ref 161), none, some (.int x2)] [.int y1, .int y0] (zS c s) v S' := by
  unfold fX12_fitting_J55 at h
  refine zr_many 4 (pc' := 11) (L' := [some (.ref 161), some (.int (y0 &&& y1)), some (.int (x2 + (1 : Int32)))]) (st' := []) (S1 := zS c s) rfl ?_
  obtain rfl := Option.some.inj h
  exact zr_wk [some (.ref 161), some (.int (y0 &&& y1)), some (.int (x2 + (1 : Int32)))] ⟨rfl, rfl, rfl, trivial⟩ (hn ((y0 &&& y1), (x2 + (1 : Int32))) rfl)
def fX12_fitting_B11 (n : Nat) (s : zs) (w11 : Int32 × Int32) : Option ((Int32 × Int32) ⊕ (Int32)) := if (s.1 161 45) ≤ w11.2 then some (Sum.inr w11.1) else cond (zi_in w11.2 12) (if ¬ (s.1 187 w11.2.toNatClampNeg) = (1 : Int32) then cond (zi_in w11.2 12) (zp (fX12_singersOf n s (s.1 186 w11.2.toNatClampNeg)) (fun r5 => fX12_fitting_J55 n s w11.2 w11.1 (r5 ^^^ (-1 : Int32)))) none else cond (zi_in w11.2 12) (zp (fX12_singersOf n s (s.1 186 w11.2.toNatClampNeg)) (fun r9 => fX12_fitting_J55 n s w11.2 w11.1 r9)) none) none
theorem tX12_fitting_B11 {n : Nat} {c : Nat × Nat} {s : zs} {w11 : Int32 × Int32} {o : _} {v : Option Value} {S' : zi_S} (h : fX12_fitting_B11 n s w11 = some o) (hn : ∀ w11, o = Sum.inl w11 → zr kX12_fitting 1 2 11 [some (.ref 161), some (.int w11.1), some (.int w11.2)] [] (zS c s) v S') (hx : ∀ z, o = Sum.inr z → (fun z => zr kX12_fitting 1 2 63 [none, some (.int z), none] [] (zS c s) v S') z) : zr kX12_fitting 1 2 11 [some (.ref 161), some (.int w11.1), some (.int w11.2)] [] (zS c s) v S' := by
  unfold fX12_fitting_B11 at h
  refine zr_many 2 (pc' := 13) (L' := [some (.ref 161), some (.int w11.1), some (.int w11.2)]) (st' := [.ref 161, .int w11.2]) (S1 := zS c s) rfl ?_
  refine zq_get rfl (zh_161 _) rfl rfl rfl ?_
  refine zq_if2 (b := (s.1 161 45) ≤ w11.2) rfl Iff.rfl rfl (fun g1 => ?_) (fun g1 => ?_)
  · rw [if_pos g1] at h
    obtain rfl := Option.some.inj h
    exact zr_wk [none, some (.int w11.1), none] ⟨rfl, trivial⟩ (hx w11.1 rfl)
  · rw [if_neg g1] at h
    refine zr_many 2 (pc' := 21) (L' := [some (.ref 161), some (.int w11.1), some (.int w11.2)]) (st' := [.ref 161, .int w11.1]) (S1 := zS c s) rfl ?_
    refine zq_get rfl (zh_161 _) rfl rfl rfl ?_
    refine zr_many 1 (pc' := 25) (L' := [some (.ref 161), some (.int w11.1), some (.int w11.2)]) (st' := [.int w11.2, .ref 187, .int w11.1]) (S1 := zS c s) rfl ?_
    obtain ⟨g2, h⟩ := zi_cond_inv h
    refine zq_ild rfl (zh_187 _) rfl g2 rfl ?_
    refine zr_many 1 (pc' := 27) (L' := [some (.ref 161), some (.int w11.1), some (.int w11.2)]) (st' := [.int (1 : Int32), .int (s.1 187 w11.2.toNatClampNeg), .int w11.1]) (S1 := zS c s) rfl ?_
    refine zq_if2 (b := ¬ (s.1 187 w11.2.toNatClampNeg) = (1 : Int32)) rfl Iff.rfl rfl (fun g3 => ?_) (fun g3 => ?_)
    · rw [if_pos g3] at h
      refine zr_many 2 (pc' := 45) (L' := [some (.ref 161), some (.int w11.1), some (.int w11.2)]) (st' := [.ref 161, .ref 161, .int w11.1]) (S1 := zS c s) rfl ?_
      refine zq_get rfl (zh_161 _) rfl rfl rfl ?_
      refine zr_many 1 (pc' := 49) (L' := [some (.ref 161), some (.int w11.1), some (.int w11.2)]) (st' := [.int w11.2, .ref 186, .ref 161, .int w11.1]) (S1 := zS c s) rfl ?_
      obtain ⟨g4, h⟩ := zi_cond_inv h
      refine zq_ild rfl (zh_186 _) rfl g4 rfl ?_
      obtain ⟨r5, g7, h⟩ := zp_inv h
      refine zq_call1 rfl rfl (zh_161 _) rfl rfl rfl (tX12_singersOf g7) rfl ?_
      refine zr_many 2 (pc' := 55) (L' := [some (.ref 161), some (.int w11.1), some (.int w11.2)]) (st' := [.int (r5 ^^^ (-1 : Int32)), .int w11.1]) (S1 := zS c s) rfl ?_
      exact zr_wk [some (.ref 161), none, some (.int w11.2)] ⟨rfl, rfl, trivial⟩ (tX12_fitting_J55 h hn hx)
    · rw [if_neg g3] at h
      refine zr_many 2 (pc' := 32) (L' := [some (.ref 161), some (.int w11.1), some (.int w11.2)]) (st' := [.ref 161, .ref 161, .int w11.1]) (S1 := zS c s) rfl ?_
      refine zq_get rfl (zh_161 _) rfl rfl rfl ?_
      refine zr_many 1 (pc' := 36) (L' := [some (.ref 161), some (.int w11.1), some (.int w11.2)]) (st' := [.int w11.2, .ref 186, .ref 161, .int w11.1]) (S1 := zS c s) rfl ?_
      obtain ⟨g8, h⟩ := zi_cond_inv h
      refine zq_ild rfl (zh_186 _) rfl g8 rfl ?_
      obtain ⟨r9, g11, h⟩ := zp_inv h
      refine zq_call1 rfl rfl (zh_161 _) rfl rfl rfl (tX12_singersOf g11) rfl ?_
      refine zr_many 1 (pc' := 55) (L' := [some (.ref 161), some (.int w11.1), some (.int w11.2)]) (st' := [.int r9, .int w11.1]) (S1 := zS c s) rfl ?_
      exact zr_wk [some (.ref 161), none, some (.int w11.2)] ⟨rfl, rfl, trivial⟩ (tX12_fitting_J55 h hn hx)
def fX12_fitting (n : Nat) (s : zs) : Option Int32 := zp (zl (fX12_fitting_B11 n s) n ((((1 : Int32) <<< ((s.1 161 4) &&& 31)) - (1 : Int32)), (0 : Int32))) (fun w12 => some w12)
theorem tX12_fitting {n : Nat} {c : Nat × Nat} {s : zs} {r : Int32} (h : fX12_fitting n s = some r) : zc 3 2497 [.ref 161] (zS c s) (some (.int r)) (zS c s) := by
  refine zc_of (k := kX12_fitting) (rt := 1) (L := [some (.ref 161), none, none]) zm_2497.1 rfl rfl (by decide) rfl rfl ?_
  unfold fX12_fitting at h
  refine zr_many 2 (pc' := 2) (L' := [some (.ref 161), none, none]) (st' := [.ref 161, .int (1 : Int32)]) (S1 := zS c s) rfl ?_
  refine zq_get rfl (zh_161 _) rfl rfl rfl ?_
  refine zr_many 6 (pc' := 11) (L' := [some (.ref 161), some (.int (((1 : Int32) <<< ((s.1 161 4) &&& 31)) - (1 : Int32))), some (.int (0 : Int32))]) (st' := []) (S1 := zS c s) rfl ?_
  obtain ⟨w12, g13, h⟩ := zp_inv h
  refine zr_wk [some (.ref 161), some (.int (((1 : Int32) <<< ((s.1 161 4) &&& 31)) - (1 : Int32))), some (.int (0 : Int32))] ⟨rfl, rfl, rfl, trivial⟩ (zl_cert (Z := fun w11 => zr kX12_fitting 1 2 11 [some (.ref 161), some (.int w11.1), some (.int w11.2)] [] (zS c s) _ _) (Y := (fun z => zr kX12_fitting 1 2 63 [none, some (.int z), none] [] (zS c s) _ _)) (fun w o h1 h2 h3 => tX12_fitting_B11 h1 h2 h3) n _ _ g13 ?_)
  show zr kX12_fitting 1 2 63 [none, some (.int w12), none] [] (zS c s) _ _
  refine zr_many 1 (pc' := 64) (L' := [none, some (.int w12), none]) (st' := [.int w12]) (S1 := zS c s) rfl ?_
  obtain rfl := Option.some.inj h
  exact zq_iret rfl
def fX12_who (n : Nat) (s : zs) : Option (Int32 × zs) := zp (fX12_fitting n (zsi s 161 0 (0 : Int32))) (fun r1 => zt (zsi s 161 0 (0 : Int32)) (fun s4 => zp (fJ6_bitCount_0f7a4 n (zsi s4 161 1 (0 : Int32)) r1) (fun r6 => zp (fX12_enters n (zsi s4 161 1 (0 : Int32)) r6.toInt64) (fun s10 => some (r1, s10)))))
theorem tX12_who {n : Nat} {c : Nat × Nat} {s : zs} {r : Int32} {s' : zs} (h : fX12_who n s = some (r, s')) : zc 4 2498 [.ref 161] (zS c s) (some (.int r)) (zS c s') := by
  refine zc_of (k := kX12_who) (rt := 1) (L := [some (.ref 161), none]) zm_2498.1 rfl rfl (by decide) rfl rfl ?_
  unfold fX12_who at h
  refine zr_many 2 (pc' := 2) (L' := [some (.ref 161), none]) (st' := [.int (0 : Int32), .ref 161]) (S1 := zS c s) rfl ?_
  refine zq_put (s' := (zsi s 161 0 (0 : Int32))) rfl (zh_161 _) rfl rfl rfl rfl zsi_ne rfl ?_
  refine zr_many 1 (pc' := 6) (L' := [some (.ref 161), none]) (st' := [.ref 161]) (S1 := zS c (zsi s 161 0 (0 : Int32))) rfl ?_
  obtain ⟨r1, g3, h⟩ := zp_inv h
  refine zq_call1 rfl rfl (zh_161 _) rfl rfl rfl (tX12_fitting g3) rfl ?_
  refine zr_many 3 (pc' := 12) (L' := [some (.ref 161), some (.int r1)]) (st' := [.int (0 : Int32), .ref 161]) (S1 := zS c (zsi s 161 0 (0 : Int32))) rfl ?_
  obtain ⟨s4, e5, h⟩ := zt_in h
  rw [← e5]
  refine zq_put (s' := (zsi s4 161 1 (0 : Int32))) rfl (zh_161 _) rfl rfl rfl rfl zsi_ne rfl ?_
  refine zr_many 2 (pc' := 17) (L' := [some (.ref 161), some (.int r1)]) (st' := [.int r1, .ref 161]) (S1 := zS c (zsi s4 161 1 (0 : Int32))) rfl ?_
  obtain ⟨r6, g8, h⟩ := zp_inv h
  refine zq_scall1 rfl (by decide) rfl rfl ((tJ6_bitCount_0f7a4 g8).up (by decide)) rfl ?_
  refine zr_many 1 (pc' := 21) (L' := [some (.ref 161), some (.int r1)]) (st' := [.long r6.toInt64, .ref 161]) (S1 := zS c (zsi s4 161 1 (0 : Int32))) rfl ?_
  obtain ⟨s10, g11, h⟩ := zp_inv h
  refine zq_call0 rfl rfl (zh_161 _) rfl rfl rfl ((tX12_enters g11).up (by decide)) rfl ?_
  refine zr_many 1 (pc' := 25) (L' := [some (.ref 161), some (.int r1)]) (st' := [.int r1]) (S1 := zS c s10) rfl ?_
  obtain ⟨rfl, rfl⟩ := Prod.mk.inj (Option.some.inj h)
  exact zq_iret rfl
