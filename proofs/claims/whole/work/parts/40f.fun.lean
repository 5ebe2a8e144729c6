/-! ===== printed by wip/gen/dec.py: the methods as functions, each with its run ===== -/
def fX11_tries_J20 (n : Nat) (s : zs) : Option Int32 := some (-1 : Int32)
theorem tX11_tries_J20 {n : Nat} {c : Nat × Nat} {s : zs} {r : Int32} (h : fX11_tries_J20 n s = some r) : zr kX11_tries 1 2 20 [none, none, none, none] [] (zS c s) (some (.int r)) (zS c s) := by
  unfold fX11_tries_J20 at h
  refine zr_many 1 (pc' := 21) (L' := [none, none, none, none]) (st' := [.int (-1 : Int32)]) (S1 := zS c s) rfl ?_
  obtain rfl := Option.some.inj h
  exact zq_iret rfl
def fX11_tries_B24 (n : Nat) (s : zs) (x1 : Int32) (x2 : Int32) (w24 : Int32) : Option ((Int32) ⊕ ((Int32) ⊕ (Unit))) := if (4 : Int32) < w24 then some (Sum.inr (Sum.inr ())) else zp (fX11_chances n s w24 x1) (fun r6 => zp (fX11_power n s (10000 : Int64) w24) (fun r9 => if (lg_cmp (r6 * (100 : Int64)) (x2.toInt64 * r9)) < 0 then some (Sum.inl (w24 + (1 : Int32))) else some (Sum.inr (Sum.inl w24))))
theorem tX11_tries_B24 {n : Nat} {c : Nat × Nat} {s : zs} {x1 : Int32} {x2 : Int32} {w24 : Int32} {o : _} {v : Option Value} {S' : zi_S} (h : fX11_tries_B24 n s x1 x2 w24 = some o) (hn : ∀ w24, o = Sum.inl w24 → zr kX11_tries 1 2 24 [none, some (.int x1), some (.int x2), some (.int w24)] [] (zS c s) v S') (hx : ∀ z, o = Sum.inr z → (Sum.elim (fun z => zr kX11_tries 1 2 52 [none, none, none, some (.int z)] [] (zS c s) v S') (fun z => zr kX11_tries 1 2 60 [none, none, none, none] [] (zS c s) v S')) z) : zr kX11_tries 1 2 24 [none, some (.int x1), some (.int x2), some (.int w24)] [] (zS c s) v S' := by
  unfold fX11_tries_B24 at h
  refine zr_many 2 (pc' := 26) (L' := [none, some (.int x1), some (.int x2), some (.int w24)]) (st' := [.int (4 : Int32), .int w24]) (S1 := zS c s) rfl ?_
  refine zq_if2 (b := (4 : Int32) < w24) rfl Iff.rfl rfl (fun g5 => ?_) (fun g5 => ?_)
  · rw [if_pos g5] at h
    obtain rfl := Option.some.inj h
    exact zr_wk [none, none, none, none] trivial (hx (Sum.inr ()) rfl)
  · rw [if_neg g5] at h
    refine zr_many 2 (pc' := 31) (L' := [none, some (.int x1), some (.int x2), some (.int w24)]) (st' := [.int x1, .int w24]) (S1 := zS c s) rfl ?_
    obtain ⟨r6, g8, h⟩ := zp_inv h
    refine zq_scall1 rfl (by decide) rfl rfl (tX11_chances g8) rfl ?_
    refine zr_many 6 (pc' := 44) (L' := [none, some (.int x1), some (.int x2), some (.int w24)]) (st' := [.int w24, .long (10000 : Int64), .long x2.toInt64, .long (r6 * (100 : Int64))]) (S1 := zS c s) rfl ?_
    obtain ⟨r9, g11, h⟩ := zp_inv h
    refine zq_scall1 rfl (by decide) rfl rfl ((tX11_power g11).up (by decide)) rfl ?_
    refine zr_many 2 (pc' := 49) (L' := [none, some (.int x1), some (.int x2), some (.int w24)]) (st' := [.int (lg_cmp (r6 * (100 : Int64)) (x2.toInt64 * r9))]) (S1 := zS c s) rfl ?_
    refine zq_if1 (b := (lg_cmp (r6 * (100 : Int64)) (x2.toInt64 * r9)) < 0) rfl Iff.rfl rfl (fun g12 => ?_) (fun g12 => ?_)
    · rw [if_pos g12] at h
      refine zr_many 2 (pc' := 24) (L' := [none, some (.int x1), some (.int x2), some (.int (w24 + (1 : Int32)))]) (st' := []) (S1 := zS c s) rfl ?_
      obtain rfl := Option.some.inj h
      exact zr_wk [none, some (.int x1), some (.int x2), some (.int (w24 + (1 : Int32)))] ⟨rfl, rfl, rfl, trivial⟩ (hn (w24 + (1 : Int32)) rfl)
    · rw [if_neg g12] at h
      obtain rfl := Option.some.inj h
      exact zr_wk [none, none, none, some (.int w24)] ⟨rfl, trivial⟩ (hx (Sum.inl w24) rfl)
def fX11_tries (n : Nat) (s : zs) (x1 : Int32) (x2 : Int32) : Option Int32 := if x1 < 0 then fX11_tries_J20 n s else if (10 : Int32) < x1 then fX11_tries_J20 n s else if x2 < 0 then fX11_tries_J20 n s else if x2 ≤ (100 : Int32) then zp (zl (fX11_tries_B24 n s x1 x2) n (1 : Int32)) (Sum.elim (fun w13 => some w13) (fun w14 => some (-2 : Int32))) else fX11_tries_J20 n s
theorem tX11_tries {n : Nat} {c : Nat × Nat} {s : zs} {x1 : Int32} {x2 : Int32} {r : Int32} (h : fX11_tries n s x1 x2 = some r) : zc 3 2247 [.ref 0, .int x1, .int x2] (zS c s) (some (.int r)) (zS c s) := by
  refine zc_of (k := kX11_tries) (rt := 1) (L := [some (.ref 0), some (.int x1), some (.int x2), none]) zm_2247.1 rfl rfl (by decide) rfl rfl ?_
  unfold fX11_tries at h
  refine zr_many 1 (pc' := 1) (L' := [some (.ref 0), some (.int x1), some (.int x2), none]) (st' := [.int x1]) (S1 := zS c s) rfl ?_
  refine zq_if1 (b := x1 < 0) rfl Iff.rfl rfl (fun g1 => ?_) (fun g1 => ?_)
  · rw [if_pos g1] at h
    exact zr_wk [none, none, none, none] trivial (tX11_tries_J20 h)
  · rw [if_neg g1] at h
    refine zr_many 2 (pc' := 7) (L' := [some (.ref 0), some (.int x1), some (.int x2), none]) (st' := [.int (10 : Int32), .int x1]) (S1 := zS c s) rfl ?_
    refine zq_if2 (b := (10 : Int32) < x1) rfl Iff.rfl rfl (fun g2 => ?_) (fun g2 => ?_)
    · rw [if_pos g2] at h
      exact zr_wk [none, none, none, none] trivial (tX11_tries_J20 h)
    · rw [if_neg g2] at h
      refine zr_many 1 (pc' := 11) (L' := [some (.ref 0), some (.int x1), some (.int x2), none]) (st' := [.int x2]) (S1 := zS c s) rfl ?_
      refine zq_if1 (b := x2 < 0) rfl Iff.rfl rfl (fun g3 => ?_) (fun g3 => ?_)
      · rw [if_pos g3] at h
        exact zr_wk [none, none, none, none] trivial (tX11_tries_J20 h)
      · rw [if_neg g3] at h
        refine zr_many 2 (pc' := 17) (L' := [some (.ref 0), some (.int x1), some (.int x2), none]) (st' := [.int (100 : Int32), .int x2]) (S1 := zS c s) rfl ?_
        refine zq_if2 (b := x2 ≤ (100 : Int32)) rfl Iff.rfl rfl (fun g4 => ?_) (fun g4 => ?_)
        · rw [if_pos g4] at h
          refine zr_many 2 (pc' := 24) (L' := [some (.ref 0), some (.int x1), some (.int x2), some (.int (1 : Int32))]) (st' := []) (S1 := zS c s) rfl ?_
          obtain ⟨w16, g15, h⟩ := zp_inv h
          rcases w16 with w13 | w14
          · simp only [Sum.elim_inl, Sum.elim_inr] at h
            refine zr_wk [none, some (.int x1), some (.int x2), some (.int (1 : Int32))] ⟨rfl, rfl, rfl, trivial⟩ (zl_cert (Z := fun w24 => zr kX11_tries 1 2 24 [none, some (.int x1), some (.int x2), some (.int w24)] [] (zS c s) _ _) (Y := (Sum.elim (fun z => zr kX11_tries 1 2 52 [none, none, none, some (.int z)] [] (zS c s) _ _) (fun z => zr kX11_tries 1 2 60 [none, none, none, none] [] (zS c s) _ _))) (fun w o h1 h2 h3 => tX11_tries_B24 h1 h2 h3) n _ _ g15 ?_)
            show zr kX11_tries 1 2 52 [none, none, none, some (.int w13)] [] (zS c s) _ _
            refine zr_many 1 (pc' := 53) (L' := [none, none, none, some (.int w13)]) (st' := [.int w13]) (S1 := zS c s) rfl ?_
            obtain rfl := Option.some.inj h
            exact zq_iret rfl
          · simp only [Sum.elim_inl, Sum.elim_inr] at h
            refine zr_wk [none, some (.int x1), some (.int x2), some (.int (1 : Int32))] ⟨rfl, rfl, rfl, trivial⟩ (zl_cert (Z := fun w24 => zr kX11_tries 1 2 24 [none, some (.int x1), some (.int x2), some (.int w24)] [] (zS c s) _ _) (Y := (Sum.elim (fun z => zr kX11_tries 1 2 52 [none, none, none, some (.int z)] [] (zS c s) _ _) (fun z => zr kX11_tries 1 2 60 [none, none, none, none] [] (zS c s) _ _))) (fun w o h1 h2 h3 => tX11_tries_B24 h1 h2 h3) n _ _ g15 ?_)
            show zr kX11_tries 1 2 60 [none, none, none, none] [] (zS c s) _ _
            refine zr_many 1 (pc' := 62) (L' := [none, none, none, none]) (st' := [.int (-2 : Int32)]) (S1 := zS c s) rfl ?_
            obtain rfl := Option.some.inj h
            exact zq_iret rfl
        · rw [if_neg g4] at h
          exact zr_wk [none, none, none, none] trivial (tX11_tries_J20 h)
def fX11_tellFirstPair_J23 (n : Nat) (s : zs) : Option zs := some s
theorem tX11_tellFirstPair_J23 {n : Nat} {c : Nat × Nat} {s : zs} {s' : zs} (h : fX11_tellFirstPair_J23 n s = some s') : zr kX11_tellFirstPair 0 2 23 [none, none, none, none] [] (zS c s) none (zS c s') := by
  unfold fX11_tellFirstPair_J23 at h
  obtain rfl := Option.some.inj h
  exact zq_vret rfl
def fX11_tellFirstPair (n : Nat) (s : zs) (x1 : Int32) (x2 : Int32) (x3 : Int32) : Option zs := if ¬ x1 = (1 : Int32) then fX11_tellFirstPair_J23 n s else zp (fX5_tell n s x2.toInt64) (fun s3 => zp (fX5_add n s3 x3.toInt64) (fun s6 => fX11_tellFirstPair_J23 n s6))
theorem tX11_tellFirstPair {n : Nat} {c : Nat × Nat} {s : zs} {x1 : Int32} {x2 : Int32} {x3 : Int32} {s' : zs} (h : fX11_tellFirstPair n s x1 x2 x3 = some s') : zc 3 2250 [.ref 0, .int x1, .int x2, .int x3] (zS c s) none (zS c s') := by
  refine zc_of (k := kX11_tellFirstPair) (rt := 0) (L := [some (.ref 0), some (.int x1), some (.int x2), some (.int x3)]) zm_2250.1 rfl rfl (by decide) rfl rfl ?_
  unfold fX11_tellFirstPair at h
  refine zr_many 2 (pc' := 2) (L' := [some (.ref 0), some (.int x1), some (.int x2), some (.int x3)]) (st' := [.int (1 : Int32), .int x1]) (S1 := zS c s) rfl ?_
  refine zq_if2 (b := ¬ x1 = (1 : Int32)) rfl Iff.rfl rfl (fun g1 => ?_) (fun g1 => ?_)
  · rw [if_pos g1] at h
    exact zr_wk [none, none, none, none] trivial (tX11_tellFirstPair_J23 h)
  · rw [if_neg g1] at h
    refine zr_many 1 (pc' := 6) (L' := [some (.ref 0), some (.int x1), some (.int x2), some (.int x3)]) (st' := [.ref 0]) (S1 := zS c s) rfl ?_
    refine zq_get rfl (zh_0 _) rfl rfl rfl ?_
    refine zr_many 2 (pc' := 11) (L' := [some (.ref 0), some (.int x1), some (.int x2), some (.int x3)]) (st' := [.long x2.toInt64, .ref 3]) (S1 := zS c s) rfl ?_
    obtain ⟨s3, g4, h⟩ := zp_inv h
    refine zq_call0 rfl rfl (zh_3 _) rfl rfl rfl (tX5_tell g4) rfl ?_
    refine zr_many 1 (pc' := 15) (L' := [some (.ref 0), some (.int x1), some (.int x2), some (.int x3)]) (st' := [.ref 0]) (S1 := zS c s3) rfl ?_
    refine zq_get rfl (zh_0 _) rfl rfl rfl ?_
    refine zr_many 2 (pc' := 20) (L' := [some (.ref 0), some (.int x1), some (.int x2), some (.int x3)]) (st' := [.long x3.toInt64, .ref 3]) (S1 := zS c s3) rfl ?_
    obtain ⟨s6, g7, h⟩ := zp_inv h
    refine zq_call0 rfl rfl (zh_3 _) rfl rfl rfl ((tX5_add g7).up (by decide)) rfl ?_
    exact zr_wk [none, none, none, none] trivial (tX11_tellFirstPair_J23 h)
def fX11_gain_J23 (n : Nat) (s : zs) (y0 : Int32) : Option Int32 := some y0
theorem tX11_gain_J23 {n : Nat} {c : Nat × Nat} {s : zs} {y0 : Int32} {r : Int32} (h : fX11_gain_J23 n s y0 = some r) : zr kX11_gain 1 0 23 [none, none, none] [.int y0] (zS c s) (some (.int r)) (zS c s) := by
  unfold fX11_gain_J23 at h
  obtain rfl := Option.some.inj h
  exact zq_iret rfl
def fX11_gain (n : Nat) (s : zs) (x0 : Int32) (x1 : Int32) (x2 : Int32) : Option Int32 := if x0 ≤ x1 then if x1 ≤ x0 then fX11_gain_J23 n s ((x0 - x2) / (2 : Int32)) else fX11_gain_J23 n s (x0 - x2) else some (0 : Int32)
theorem tX11_gain {n : Nat} {c : Nat × Nat} {s : zs} {x0 : Int32} {x1 : Int32} {x2 : Int32} {r : Int32} (h : fX11_gain n s x0 x1 x2 = some r) : zc 1 2255 [.int x0, .int x1, .int x2] (zS c s) (some (.int r)) (zS c s) := by
  refine zc_of (k := kX11_gain) (rt := 1) (L := [some (.int x0), some (.int x1), some (.int x2)]) zm_2255.1 rfl rfl (by decide) rfl rfl ?_
  unfold fX11_gain at h
  refine zr_many 2 (pc' := 2) (L' := [some (.int x0), some (.int x1), some (.int x2)]) (st' := [.int x1, .int x0]) (S1 := zS c s) rfl ?_
  refine zq_if2 (b := x0 ≤ x1) rfl Iff.rfl rfl (fun g1 => ?_) (fun g1 => ?_)
  · rw [if_pos g1] at h
    refine zr_many 2 (pc' := 9) (L' := [some (.int x0), some (.int x1), some (.int x2)]) (st' := [.int x1, .int x0]) (S1 := zS c s) rfl ?_
    refine zq_if2 (b := x1 ≤ x0) rfl Iff.rfl rfl (fun g2 => ?_) (fun g2 => ?_)
    · rw [if_pos g2] at h
      refine zr_many 4 (pc' := 22) (L' := [some (.int x0), some (.int x1), some (.int x2)]) (st' := [.int (2 : Int32), .int (x0 - x2)]) (S1 := zS c s) rfl ?_
      refine zq_idiv rfl (by decide) rfl ?_
      exact zr_wk [none, none, none] trivial (tX11_gain_J23 h)
    · rw [if_neg g2] at h
      refine zr_many 4 (pc' := 23) (L' := [some (.int x0), some (.int x1), some (.int x2)]) (st' := [.int (x0 - x2)]) (S1 := zS c s) rfl ?_
      exact zr_wk [none, none, none] trivial (tX11_gain_J23 h)
  · rw [if_neg g1] at h
    refine zr_many 1 (pc' := 6) (L' := [some (.int x0), some (.int x1), some (.int x2)]) (st' := [.int (0 : Int32)]) (S1 := zS c s) rfl ?_
    obtain rfl := Option.some.inj h
    exact zq_iret rfl
def fX11_isBest_B10 (n : Nat) (s : zs) (x1 : Int32) (x2 : Int32) (x3 : Int32) (w10 : Int32) : Option ((Int32) ⊕ ((Unit) ⊕ (Unit))) := if (10 : Int32) ≤ w10 then some (Sum.inr (Sum.inr ())) else zp (fX11_gain n s w10 x1 x2) (fun r5 => if r5 ≤ x3 then some (Sum.inl (w10 + (1 : Int32))) else some (Sum.inr (Sum.inl ())))
theorem tX11_isBest_B10 {n : Nat} {c : Nat × Nat} {s : zs} {x1 : Int32} {x2 : Int32} {x3 : Int32} {w10 : Int32} {o : _} {v : Option Value} {S' : zi_S} (h : fX11_isBest_B10 n s x1 x2 x3 w10 = some o) (hn : ∀ w10, o = Sum.inl w10 → zr kX11_isBest 2 1 10 [none, some (.int x1), some (.int x2), some (.int x3), some (.int w10)] [] (zS c s) v S') (hx : ∀ z, o = Sum.inr z → (Sum.elim (fun z => zr kX11_isBest 2 1 28 [none, none, none, none, none] [] (zS c s) v S') (fun z => zr kX11_isBest 2 1 36 [none, none, none, none, none] [] (zS c s) v S')) z) : zr kX11_isBest 2 1 10 [none, some (.int x1), some (.int x2), some (.int x3), some (.int w10)] [] (zS c s) v S' := by
  unfold fX11_isBest_B10 at h
  refine zr_many 2 (pc' := 14) (L' := [none, some (.int x1), some (.int x2), some (.int x3), some (.int w10)]) (st' := [.int (10 : Int32), .int w10]) (S1 := zS c s) rfl ?_
  refine zq_if2 (b := (10 : Int32) ≤ w10) rfl Iff.rfl rfl (fun g4 => ?_) (fun g4 => ?_)
  · rw [if_pos g4] at h
    obtain rfl := Option.some.inj h
    exact zr_wk [none, none, none, none, none] trivial (hx (Sum.inr ()) rfl)
  · rw [if_neg g4] at h
    refine zr_many 3 (pc' := 21) (L' := [none, some (.int x1), some (.int x2), some (.int x3), some (.int w10)]) (st' := [.int x2, .int x1, .int w10]) (S1 := zS c s) rfl ?_
    obtain ⟨r5, g7, h⟩ := zp_inv h
    refine zq_scall1 rfl (by decide) rfl rfl (tX11_gain g7) rfl ?_
    refine zr_many 1 (pc' := 25) (L' := [none, some (.int x1), some (.int x2), some (.int x3), some (.int w10)]) (st' := [.int x3, .int r5]) (S1 := zS c s) rfl ?_
    refine zq_if2 (b := r5 ≤ x3) rfl Iff.rfl rfl (fun g8 => ?_) (fun g8 => ?_)
    · rw [if_pos g8] at h
      refine zr_many 2 (pc' := 10) (L' := [none, some (.int x1), some (.int x2), some (.int x3), some (.int (w10 + (1 : Int32)))]) (st' := []) (S1 := zS c s) rfl ?_
      obtain rfl := Option.some.inj h
      exact zr_wk [none, some (.int x1), some (.int x2), some (.int x3), some (.int (w10 + (1 : Int32)))] ⟨rfl, rfl, rfl, rfl, trivial⟩ (hn (w10 + (1 : Int32)) rfl)
    · rw [if_neg g8] at h
      obtain rfl := Option.some.inj h
      exact zr_wk [none, none, none, none, none] trivial (hx (Sum.inl ()) rfl)
def fX11_isBest (n : Nat) (s : zs) (x0 : Int32) (x1 : Int32) (x2 : Int32) : Option Int32 := zp (fX11_gain n s x0 x1 x2) (fun r1 => zp (zl (fX11_isBest_B10 n s x1 x2 r1) n (0 : Int32)) (Sum.elim (fun w9 => some (0 : Int32)) (fun w10 => some (1 : Int32))))
theorem tX11_isBest {n : Nat} {c : Nat × Nat} {s : zs} {x0 : Int32} {x1 : Int32} {x2 : Int32} {r : Int32} (h : fX11_isBest n s x0 x1 x2 = some r) : zc 2 2254 [.int x0, .int x1, .int x2] (zS c s) (some (.int r)) (zS c s) := by
  refine zc_of (k := kX11_isBest) (rt := 2) (L := [some (.int x0), some (.int x1), some (.int x2), none, none]) zm_2254.1 rfl rfl (by decide) rfl rfl ?_
  unfold fX11_isBest at h
  refine zr_many 3 (pc' := 3) (L' := [some (.int x0), some (.int x1), some (.int x2), none, none]) (st' := [.int x2, .int x1, .int x0]) (S1 := zS c s) rfl ?_
  obtain ⟨r1, g3, h⟩ := zp_inv h
  refine zq_scall1 rfl (by decide) rfl rfl (tX11_gain g3) rfl ?_
  refine zr_many 3 (pc' := 10) (L' := [some (.int x0), some (.int x1), some (.int x2), some (.int r1), some (.int (0 : Int32))]) (st' := []) (S1 := zS c s) rfl ?_
  obtain ⟨w12, g11, h⟩ := zp_inv h
  rcases w12 with w9 | w10
  · simp only [Sum.elim_inl, Sum.elim_inr] at h
    refine zr_wk [none, some (.int x1), some (.int x2), some (.int r1), some (.int (0 : Int32))] ⟨rfl, rfl, rfl, rfl, trivial⟩ (zl_cert (Z := fun w10 => zr kX11_isBest 2 1 10 [none, some (.int x1), some (.int x2), some (.int r1), some (.int w10)] [] (zS c s) _ _) (Y := (Sum.elim (fun z => zr kX11_isBest 2 1 28 [none, none, none, none, none] [] (zS c s) _ _) (fun z => zr kX11_isBest 2 1 36 [none, none, none, none, none] [] (zS c s) _ _))) (fun w o h1 h2 h3 => tX11_isBest_B10 h1 h2 h3) n _ _ g11 ?_)
    show zr kX11_isBest 2 1 28 [none, none, none, none, none] [] (zS c s) _ _
    refine zr_many 1 (pc' := 29) (L' := [none, none, none, none, none]) (st' := [.int (0 : Int32)]) (S1 := zS c s) rfl ?_
    obtain rfl := Option.some.inj h
    exact zq_zret rfl (by decide)
  · simp only [Sum.elim_inl, Sum.elim_inr] at h
    refine zr_wk [none, some (.int x1), some (.int x2), some (.int r1), some (.int (0 : Int32))] ⟨rfl, rfl, rfl, rfl, trivial⟩ (zl_cert (Z := fun w10 => zr kX11_isBest 2 1 10 [none, some (.int x1), some (.int x2), some (.int r1), some (.int w10)] [] (zS c s) _ _) (Y := (Sum.elim (fun z => zr kX11_isBest 2 1 28 [none, none, none, none, none] [] (zS c s) _ _) (fun z => zr kX11_isBest 2 1 36 [none, none, none, none, none] [] (zS c s) _ _))) (fun w o h1 h2 h3 => tX11_isBest_B10 h1 h2 h3) n _ _ g11 ?_)
    show zr kX11_isBest 2 1 36 [none, none, none, none, none] [] (zS c s) _ _
    refine zr_many 1 (pc' := 37) (L' := [none, none, none, none, none]) (st' := [.int (1 : Int32)]) (S1 := zS c s) rfl ?_
    obtain rfl := Option.some.inj h
    exact zq_zret rfl (by decide)
def fX11_rests_J10 (n : Nat) (s : zs) : Option (Int32 × zs) := some ((-1 : Int32), s)
theorem tX11_rests_J10 {n : Nat} {c : Nat × Nat} {s : zs} {r : Int32} {s' : zs} (h : fX11_rests_J10 n s = some (r, s')) : zr kX11_rests 1 3 10 [none, none, none, none, none] [] (zS c s) (some (.int r)) (zS c s') := by
  unfold fX11_rests_J10 at h
  refine zr_many 1 (pc' := 11) (L' := [none, none, none, none, none]) (st' := [.int (-1 : Int32)]) (S1 := zS c s) rfl ?_
  obtain ⟨rfl, rfl⟩ := Prod.mk.inj (Option.some.inj h)
  exact zq_iret rfl
def fX11_rests_J70 (n : Nat) (s : zs) (x1 : Int32) (x2 : Int32) (x3 : Int32) (x4 : Int32) : Option ((Int32 × Int32 × zs) ⊕ (Int32 × zs)) := some (Sum.inl (x2, (x4 + (1 : Int32)), s))
theorem tX11_rests_J70 {n : Nat} {c : Nat × Nat} {s : zs} {x1 : Int32} {x2 : Int32} {x3 : Int32} {x4 : Int32} {o : _} {v : Option Value} {S' : zi_S} (h : fX11_rests_J70 n s x1 x2 x3 x4 = some o) (hn : ∀ w32, o = Sum.inl w32 → zr kX11_rests 1 3 32 [some (.ref 0), some (.int x1), some (.int w32.1), some (.int x3), some (.int w32.2.1)] [] (zS c w32.2.2) v S') (hx : ∀ z, o = Sum.inr z → (fun z => zr kX11_rests 1 3 76 [some (.ref 0), some (.int x1), some (.int z.1), some (.int x3), none] [] (zS c z.2) v S') z) : zr kX11_rests 1 3 70 [some (.ref 0), some (.int x1), some (.int x2), some (.int x3), some (.int x4)] [] (zS c s) v S' := by
  unfold fX11_rests_J70 at h
  refine zr_many 2 (pc' := 32) (L' := [some (.ref 0), some (.int x1), some (.int x2), some (.int x3), some (.int (x4 + (1 : Int32)))]) (st' := []) (S1 := zS c s) rfl ?_
  obtain rfl := Option.some.inj h
  exact zr_wk [some (.ref 0), some (.int x1), some (.int x2), some (.int x3), some (.int (x4 + (1 : Int32)))] ⟨rfl, rfl, rfl, rfl, rfl, trivial⟩ (hn (x2, (x4 + (1 : Int32)), s) rfl)
def fX11_rests_B32 (n : Nat) (x1 : Int32) (x3 : Int32) (w32 : Int32 × Int32 × zs) : Option ((Int32 × Int32 × zs) ⊕ (Int32 × zs)) := if (10 : Int32) ≤ w32.2.1 then some (Sum.inr (w32.1, w32.2.2)) else zp (fX11_isBest n w32.2.2 x3 w32.2.1 x1) (fun r8 => if r8 = 0 then fX11_rests_J70 n w32.2.2 x1 w32.1 x3 w32.2.1 else zp (fX11_isBest n w32.2.2 w32.2.1 x3 x1) (fun r12 => if r12 = 0 then fX11_rests_J70 n w32.2.2 x1 w32.1 x3 w32.2.1 else zp (fX11_tellFirstPair n w32.2.2 (w32.1 + (1 : Int32)) x3 w32.2.1) (fun s17 => fX11_rests_J70 n s17 x1 (w32.1 + (1 : Int32)) x3 w32.2.1)))
theorem tX11_rests_B32 {n : Nat} {c : Nat × Nat} {x1 : Int32} {x3 : Int32} {w32 : Int32 × Int32 × zs} {o : _} {v : Option Value} {S' : zi_S} (h : fX11_rests_B32 n x1 x3 w32 = some o) (hn : ∀ w32, o = Sum.inl w32 → zr kX11_rests 1 3 32 [some (.ref 0), some (.int x1), some (.int w32.1), some (.int x3), some (.int w32.2.1)] [] (zS c w32.2.2) v S') (hx : ∀ z, o = Sum.inr z → (fun z => zr kX11_rests 1 3 76 [some (.ref 0), some (.int x1), some (.int z.1), some (.int x3), none] [] (zS c z.2) v S') z) : zr kX11_rests 1 3 32 [some (.ref 0), some (.int x1), some (.int w32.1), some (.int x3), some (.int w32.2.1)] [] (zS c w32.2.2) v S' := by
  unfold fX11_rests_B32 at h
  refine zr_many 2 (pc' := 36) (L' := [some (.ref 0), some (.int x1), some (.int w32.1), some (.int x3), some (.int w32.2.1)]) (st' := [.int (10 : Int32), .int w32.2.1]) (S1 := zS c w32.2.2) rfl ?_
  refine zq_if2 (b := (10 : Int32) ≤ w32.2.1) rfl Iff.rfl rfl (fun g7 => ?_) (fun g7 => ?_)
  · rw [if_pos g7] at h
    obtain rfl := Option.some.inj h
    exact zr_wk [some (.ref 0), some (.int x1), some (.int w32.1), some (.int x3), none] ⟨rfl, rfl, rfl, rfl, trivial⟩ (hx (w32.1, w32.2.2) rfl)
  · rw [if_neg g7] at h
    refine zr_many 3 (pc' := 43) (L' := [some (.ref 0), some (.int x1), some (.int w32.1), some (.int x3), some (.int w32.2.1)]) (st' := [.int x1, .int w32.2.1, .int x3]) (S1 := zS c w32.2.2) rfl ?_
    obtain ⟨r8, g10, h⟩ := zp_inv h
    refine zq_scall1 rfl (by decide) rfl rfl ((tX11_isBest g10).up (by decide)) rfl ?_
    refine zq_if1 (b := r8 = 0) rfl Iff.rfl rfl (fun g11 => ?_) (fun g11 => ?_)
    · rw [if_pos g11] at h
      exact zr_wk [some (.ref 0), some (.int x1), some (.int w32.1), some (.int x3), some (.int w32.2.1)] ⟨rfl, rfl, rfl, rfl, rfl, trivial⟩ (tX11_rests_J70 h hn hx)
    · rw [if_neg g11] at h
      refine zr_many 3 (pc' := 53) (L' := [some (.ref 0), some (.int x1), some (.int w32.1), some (.int x3), some (.int w32.2.1)]) (st' := [.int x1, .int x3, .int w32.2.1]) (S1 := zS c w32.2.2) rfl ?_
      obtain ⟨r12, g14, h⟩ := zp_inv h
      refine zq_scall1 rfl (by decide) rfl rfl ((tX11_isBest g14).up (by decide)) rfl ?_
      refine zq_if1 (b := r12 = 0) rfl Iff.rfl rfl (fun g15 => ?_) (fun g15 => ?_)
      · rw [if_pos g15] at h
        exact zr_wk [some (.ref 0), some (.int x1), some (.int w32.1), some (.int x3), some (.int w32.2.1)] ⟨rfl, rfl, rfl, rfl, rfl, trivial⟩ (tX11_rests_J70 h hn hx)
      · rw [if_neg g15] at h
        refine zr_many 5 (pc' := 67) (L' := [some (.ref 0), some (.int x1), some (.int (w32.1 + (1 : Int32))), some (.int x3), some (.int w32.2.1)]) (st' := [.int w32.2.1, .int x3, .int (w32.1 + (1 : Int32)), .ref 0]) (S1 := zS c w32.2.2) rfl ?_
        obtain ⟨s17, g18, h⟩ := zp_inv h
        refine zq_call0 rfl rfl (zh_0 _) rfl rfl rfl (tX11_tellFirstPair g18) rfl ?_
        exact zr_wk [some (.ref 0), some (.int x1), some (.int (w32.1 + (1 : Int32))), some (.int x3), some (.int w32.2.1)] ⟨rfl, rfl, rfl, rfl, rfl, trivial⟩ (tX11_rests_J70 h hn hx)
def fX11_rests_B23 (n : Nat) (x1 : Int32) (w23 : Int32 × Int32 × zs) : Option ((Int32 × Int32 × zs) ⊕ (Int32 × zs)) := if (10 : Int32) ≤ w23.2.1 then some (Sum.inr (w23.1, w23.2.2)) else zp (zl (fX11_rests_B32 n x1 w23.2.1) n (w23.1, (0 : Int32), w23.2.2)) (fun w19 => some (Sum.inl (w19.1, (w23.2.1 + (1 : Int32)), w19.2)))
theorem tX11_rests_B23 {n : Nat} {c : Nat × Nat} {x1 : Int32} {w23 : Int32 × Int32 × zs} {o : _} {v : Option Value} {S' : zi_S} (h : fX11_rests_B23 n x1 w23 = some o) (hn : ∀ w23, o = Sum.inl w23 → zr kX11_rests 1 3 23 [some (.ref 0), some (.int x1), some (.int w23.1), some (.int w23.2.1), none] [] (zS c w23.2.2) v S') (hx : ∀ z, o = Sum.inr z → (fun z => zr kX11_rests 1 3 82 [none, none, some (.int z.1), none, none] [] (zS c z.2) v S') z) : zr kX11_rests 1 3 23 [some (.ref 0), some (.int x1), some (.int w23.1), some (.int w23.2.1), none] [] (zS c w23.2.2) v S' := by
  unfold fX11_rests_B23 at h
  refine zr_many 2 (pc' := 26) (L' := [some (.ref 0), some (.int x1), some (.int w23.1), some (.int w23.2.1), none]) (st' := [.int (10 : Int32), .int w23.2.1]) (S1 := zS c w23.2.2) rfl ?_
  refine zq_if2 (b := (10 : Int32) ≤ w23.2.1) rfl Iff.rfl rfl (fun g6 => ?_) (fun g6 => ?_)
  · rw [if_pos g6] at h
    obtain rfl := Option.some.inj h
    exact zr_wk [none, none, some (.int w23.1), none, none] ⟨rfl, trivial⟩ (hx (w23.1, w23.2.2) rfl)
  · rw [if_neg g6] at h
    refine zr_many 2 (pc' := 32) (L' := [some (.ref 0), some (.int x1), some (.int w23.1), some (.int w23.2.1), some (.int (0 : Int32))]) (st' := []) (S1 := zS c w23.2.2) rfl ?_
    obtain ⟨w19, g20, h⟩ := zp_inv h
    refine zr_wk [some (.ref 0), some (.int x1), some (.int w23.1), some (.int w23.2.1), some (.int (0 : Int32))] ⟨rfl, rfl, rfl, rfl, rfl, trivial⟩ (zl_cert (Z := fun w32 => zr kX11_rests 1 3 32 [some (.ref 0), some (.int x1), some (.int w32.1), some (.int w23.2.1), some (.int w32.2.1)] [] (zS c w32.2.2) _ _) (Y := (fun z => zr kX11_rests 1 3 76 [some (.ref 0), some (.int x1), some (.int z.1), some (.int w23.2.1), none] [] (zS c z.2) _ _)) (fun w o h1 h2 h3 => tX11_rests_B32 h1 h2 h3) n _ _ g20 ?_)
    show zr kX11_rests 1 3 76 [some (.ref 0), some (.int x1), some (.int w19.1), some (.int w23.2.1), none] [] (zS c w19.2) _ _
    refine zr_many 2 (pc' := 23) (L' := [some (.ref 0), some (.int x1), some (.int w19.1), some (.int (w23.2.1 + (1 : Int32))), none]) (st' := []) (S1 := zS c w19.2) rfl ?_
    obtain rfl := Option.some.inj h
    exact zr_wk [some (.ref 0), some (.int x1), some (.int w19.1), some (.int (w23.2.1 + (1 : Int32))), none] ⟨rfl, rfl, rfl, rfl, trivial⟩ (hn (w19.1, (w23.2.1 + (1 : Int32)), w19.2) rfl)
def fX11_rests (n : Nat) (s : zs) (x1 : Int32) : Option (Int32 × zs) := if x1 < 0 then fX11_rests_J10 n s else if x1 ≤ (9 : Int32) then zp (fX5_clear n s) (fun s4 => zp (zl (fX11_rests_B23 n x1) n ((0 : Int32), (0 : Int32), s4)) (fun w21 => some (w21.1, w21.2))) else fX11_rests_J10 n s
theorem tX11_rests {n : Nat} {c : Nat × Nat} {s : zs} {x1 : Int32} {r : Int32} {s' : zs} (h : fX11_rests n s x1 = some (r, s')) : zc 4 2248 [.ref 0, .int x1] (zS c s) (some (.int r)) (zS c s') := by
  refine zc_of (k := kX11_rests) (rt := 1) (L := [some (.ref 0), some (.int x1), none, none, none]) zm_2248.1 rfl rfl (by decide) rfl rfl ?_
  unfold fX11_rests at h
  refine zr_many 1 (pc' := 1) (L' := [some (.ref 0), some (.int x1), none, none, none]) (st' := [.int x1]) (S1 := zS c s) rfl ?_
  refine zq_if1 (b := x1 < 0) rfl Iff.rfl rfl (fun g1 => ?_) (fun g1 => ?_)
  · rw [if_pos g1] at h
    exact zr_wk [none, none, none, none, none] trivial (tX11_rests_J10 h)
  · rw [if_neg g1] at h
    refine zr_many 2 (pc' := 7) (L' := [some (.ref 0), some (.int x1), none, none, none]) (st' := [.int (9 : Int32), .int x1]) (S1 := zS c s) rfl ?_
    refine zq_if2 (b := x1 ≤ (9 : Int32)) rfl Iff.rfl rfl (fun g2 => ?_) (fun g2 => ?_)
    · rw [if_pos g2] at h
      refine zr_many 3 (pc' := 15) (L' := [some (.ref 0), some (.int x1), some (.int (0 : Int32)), none, none]) (st' := [.ref 0]) (S1 := zS c s) rfl ?_
      refine zq_get rfl (zh_0 _) rfl rfl rfl ?_
      obtain ⟨s4, g5, h⟩ := zp_inv h
      refine zq_call0 rfl rfl (zh_3 _) rfl rfl rfl ((tX5_clear g5).up (by decide)) rfl ?_
      refine zr_many 2 (pc' := 23) (L' := [some (.ref 0), some (.int x1), some (.int (0 : Int32)), some (.int (0 : Int32)), none]) (st' := []) (S1 := zS c s4) rfl ?_
      obtain ⟨w21, g22, h⟩ := zp_inv h
      refine zr_wk [some (.ref 0), some (.int x1), some (.int (0 : Int32)), some (.int (0 : Int32)), none] ⟨rfl, rfl, rfl, rfl, trivial⟩ (zl_cert (Z := fun w23 => zr kX11_rests 1 3 23 [some (.ref 0), some (.int x1), some (.int w23.1), some (.int w23.2.1), none] [] (zS c w23.2.2) _ _) (Y := (fun z => zr kX11_rests 1 3 82 [none, none, some (.int z.1), none, none] [] (zS c z.2) _ _)) (fun w o h1 h2 h3 => tX11_rests_B23 h1 h2 h3) n _ _ g22 ?_)
      show zr kX11_rests 1 3 82 [none, none, some (.int w21.1), none, none] [] (zS c w21.2) _ _
      refine zr_many 1 (pc' := 83) (L' := [none, none, some (.int w21.1), none, none]) (st' := [.int w21.1]) (S1 := zS c w21.2) rfl ?_
      obtain ⟨rfl, rfl⟩ := Prod.mk.inj (Option.some.inj h)
      exact zq_iret rfl
    · rw [if_neg g2] at h
      exact zr_wk [none, none, none, none, none] trivial (tX11_rests_J10 h)
def fX11_pays_J22 (n : Nat) (s : zs) : Option (Int32 × zs) := some ((-1 : Int32), s)
theorem tX11_pays_J22 {n : Nat} {c : Nat × Nat} {s : zs} {r : Int32} {s' : zs} (h : fX11_pays_J22 n s = some (r, s')) : zr kX11_pays 1 4 22 [none, none, none, none, none, none, none, none, none] [] (zS c s) (some (.int r)) (zS c s') := by
  unfold fX11_pays_J22 at h
  refine zr_many 1 (pc' := 23) (L' := [none, none, none, none, none, none, none, none, none]) (st' := [.int (-1 : Int32)]) (S1 := zS c s) rfl ?_
  obtain ⟨rfl, rfl⟩ := Prod.mk.inj (Option.some.inj h)
  exact zq_iret rfl
def fX11_pays_J167 (n : Nat) (s : zs) (x3 : Int32) (x4 : Int32) (x5 : Int32) (x6 : Int32) (y0 : Int32) : Option ((Int32 × Int32 × zs) ⊕ (Int32 × zs)) := zp (fX5_add n s y0.toInt64) (fun s41 => some (Sum.inl ((if x5 < y0 then y0 else x5), (x6 + (1 : Int32)), s41)))
theorem tX11_pays_J167 {n : Nat} {c : Nat × Nat} {s : zs} {x3 : Int32} {x4 : Int32} {x5 : Int32} {x6 : Int32} {y0 : Int32} {o : _} {v : Option Value} {S' : zi_S} (h : fX11_pays_J167 n s x3 x4 x5 x6 y0 = some o) (hn : ∀ w108, o = Sum.inl w108 → zr kX11_pays 1 4 108 [some (.ref 0), none, none, some (.int x3), some (.int x4), some (.int w108.1), some (.int w108.2.1), none, none] [] (zS c w108.2.2) v S') (hx : ∀ z, o = Sum.inr z → (fun z => zr kX11_pays 1 4 194 [none, none, none, none, none, some (.int z.1), none, none, none] [] (zS c z.2) v S') z) : zr kX11_pays 1 4 167 [some (.ref 0), none, none, some (.int x3), some (.int x4), some (.int x5), some (.int x6), none, none] [.int y0] (zS c s) v S' := by
  unfold fX11_pays_J167 at h
  refine zr_many 2 (pc' := 170) (L' := [some (.ref 0), none, none, some (.int x3), some (.int x4), some (.int x5), some (.int x6), none, some (.int y0)]) (st' := [.ref 0]) (S1 := zS c s) rfl ?_
  refine zq_get rfl (zh_0 _) rfl rfl rfl ?_
  refine zr_many 2 (pc' := 176) (L' := [some (.ref 0), none, none, some (.int x3), some (.int x4), some (.int x5), some (.int x6), none, some (.int y0)]) (st' := [.long y0.toInt64, .ref 3]) (S1 := zS c s) rfl ?_
  obtain ⟨s41, g42, h⟩ := zp_inv h
  refine zq_call0 rfl rfl (zh_3 _) rfl rfl rfl ((tX5_add g42).up (by decide)) rfl ?_
  refine zr_many 6 (pc' := 108) (L' := [some (.ref 0), none, none, some (.int x3), some (.int x4), some (.int (if x5 < y0 then y0 else x5)), some (.int (x6 + (1 : Int32))), none, some (.int y0)]) (st' := []) (S1 := zS c s41) rfl ?_
  obtain rfl := Option.some.inj h
  exact zr_wk [some (.ref 0), none, none, some (.int x3), some (.int x4), some (.int (if x5 < y0 then y0 else x5)), some (.int (x6 + (1 : Int32))), none, none] ⟨rfl, rfl, rfl, rfl, rfl, trivial⟩ (hn ((if x5 < y0 then y0 else x5), (x6 + (1 : Int32)), s41) rfl)
def fX11_pays_B108 (n : Nat) (x3 : Int32) (x4 : Int32) (w108 : Int32 × Int32 × zs) : Option ((Int32 × Int32 × zs) ⊕ (Int32 × zs)) := if (w108.2.2.1 5 8) ≤ w108.2.1 then some (Sum.inr (w108.1, w108.2.2)) else zp (fX2_cheapest n w108.2.2 (x3 &&& (((1 : Int32) <<< (w108.2.1 &&& 31)) ^^^ (-1 : Int32)))) (fun r30 => if 0 ≤ r30 then zp (fX0_feesOf n w108.2.2 r30) (fun r34 => zp (fX0_feesOf n w108.2.2 x4) (fun r37 => fX11_pays_J167 n w108.2.2 x3 x4 w108.1 w108.2.1 (r34 - r37))) else fX11_pays_J167 n w108.2.2 x3 x4 w108.1 w108.2.1 (9999 : Int32))
theorem tX11_pays_B108 {n : Nat} {c : Nat × Nat} {x3 : Int32} {x4 : Int32} {w108 : Int32 × Int32 × zs} {o : _} {v : Option Value} {S' : zi_S} (h : fX11_pays_B108 n x3 x4 w108 = some o) (hn : ∀ w108, o = Sum.inl w108 → zr kX11_pays 1 4 108 [some (.ref 0), none, none, some (.int x3), some (.int x4), some (.int w108.1), some (.int w108.2.1), none, none] [] (zS c w108.2.2) v S') (hx : ∀ z, o = Sum.inr z → (fun z => zr kX11_pays 1 4 194 [none, none, none, none, none, some (.int z.1), none, none, none] [] (zS c z.2) v S') z) : zr kX11_pays 1 4 108 [some (.ref 0), none, none, some (.int x3), some (.int x4), some (.int w108.1), some (.int w108.2.1), none, none] [] (zS c w108.2.2) v S' := by
  unfold fX11_pays_B108 at h
  refine zr_many 2 (pc' := 111) (L' := [some (.ref 0), none, none, some (.int x3), some (.int x4), some (.int w108.1), some (.int w108.2.1), none, none]) (st' := [.ref 0, .int w108.2.1]) (S1 := zS c w108.2.2) rfl ?_
  refine zq_get rfl (zh_0 _) rfl rfl rfl ?_
  refine zq_get rfl (zh_5 _) rfl rfl rfl ?_
  refine zq_if2 (b := (w108.2.2.1 5 8) ≤ w108.2.1) rfl Iff.rfl rfl (fun g29 => ?_) (fun g29 => ?_)
  · rw [if_pos g29] at h
    obtain rfl := Option.some.inj h
    exact zr_wk [none, none, none, none, none, some (.int w108.1), none, none, none] ⟨rfl, trivial⟩ (hx (w108.1, w108.2.2) rfl)
  · rw [if_neg g29] at h
    refine zr_many 1 (pc' := 121) (L' := [some (.ref 0), none, none, some (.int x3), some (.int x4), some (.int w108.1), some (.int w108.2.1), none, none]) (st' := [.ref 0]) (S1 := zS c w108.2.2) rfl ?_
    refine zq_get rfl (zh_0 _) rfl rfl rfl ?_
    refine zr_many 7 (pc' := 132) (L' := [some (.ref 0), none, none, some (.int x3), some (.int x4), some (.int w108.1), some (.int w108.2.1), none, none]) (st' := [.int (x3 &&& (((1 : Int32) <<< (w108.2.1 &&& 31)) ^^^ (-1 : Int32))), .ref 41]) (S1 := zS c w108.2.2) rfl ?_
    obtain ⟨r30, g32, h⟩ := zp_inv h
    refine zq_call1 rfl rfl (zh_41 _) rfl rfl rfl ((tX2_cheapest g32).up (by decide)) rfl ?_
    refine zr_many 2 (pc' := 139) (L' := [some (.ref 0), none, none, some (.int x3), some (.int x4), some (.int w108.1), some (.int w108.2.1), some (.int r30), none]) (st' := [.int r30]) (S1 := zS c w108.2.2) rfl ?_
    refine zq_if1 (b := 0 ≤ r30) rfl Iff.rfl rfl (fun g33 => ?_) (fun g33 => ?_)
    · rw [if_pos g33] at h
      refine zr_many 1 (pc' := 149) (L' := [some (.ref 0), none, none, some (.int x3), some (.int x4), some (.int w108.1), some (.int w108.2.1), some (.int r30), none]) (st' := [.ref 0]) (S1 := zS c w108.2.2) rfl ?_
      refine zq_get rfl (zh_0 _) rfl rfl rfl ?_
      refine zr_many 1 (pc' := 154) (L' := [some (.ref 0), none, none, some (.int x3), some (.int x4), some (.int w108.1), some (.int w108.2.1), some (.int r30), none]) (st' := [.int r30, .ref 5]) (S1 := zS c w108.2.2) rfl ?_
      obtain ⟨r34, g36, h⟩ := zp_inv h
      refine zq_call1 rfl rfl (zh_5 _) rfl rfl rfl ((tX0_feesOf g36).up (by decide)) rfl ?_
      refine zr_many 1 (pc' := 158) (L' := [some (.ref 0), none, none, some (.int x3), some (.int x4), some (.int w108.1), some (.int w108.2.1), some (.int r30), none]) (st' := [.ref 0, .int r34]) (S1 := zS c w108.2.2) rfl ?_
      refine zq_get rfl (zh_0 _) rfl rfl rfl ?_
      refine zr_many 1 (pc' := 163) (L' := [some (.ref 0), none, none, some (.int x3), some (.int x4), some (.int w108.1), some (.int w108.2.1), some (.int r30), none]) (st' := [.int x4, .ref 5, .int r34]) (S1 := zS c w108.2.2) rfl ?_
      obtain ⟨r37, g39, h⟩ := zp_inv h
      refine zq_call1 rfl rfl (zh_5 _) rfl rfl rfl ((tX0_feesOf g39).up (by decide)) rfl ?_
      refine zr_many 1 (pc' := 167) (L' := [some (.ref 0), none, none, some (.int x3), some (.int x4), some (.int w108.1), some (.int w108.2.1), some (.int r30), none]) (st' := [.int (r34 - r37)]) (S1 := zS c w108.2.2) rfl ?_
      exact zr_wk [some (.ref 0), none, none, some (.int x3), some (.int x4), some (.int w108.1), some (.int w108.2.1), none, none] ⟨rfl, rfl, rfl, rfl, rfl, trivial⟩ (tX11_pays_J167 h hn hx)
    · rw [if_neg g33] at h
      refine zr_many 2 (pc' := 167) (L' := [some (.ref 0), none, none, some (.int x3), some (.int x4), some (.int w108.1), some (.int w108.2.1), some (.int r30), none]) (st' := [.int (9999 : Int32)]) (S1 := zS c w108.2.2) rfl ?_
      exact zr_wk [some (.ref 0), none, none, some (.int x3), some (.int x4), some (.int w108.1), some (.int w108.2.1), none, none] ⟨rfl, rfl, rfl, rfl, rfl, trivial⟩ (tX11_pays_J167 h hn hx)
def fX11_pays (n : Nat) (s : zs) (x1 : Int32) (x2 : Int32) : Option (Int32 × zs) := zp (fX0_hasBarge n s x1) (fun r1 => if r1 = 0 then fX11_pays_J22 n s else zp (fX0_hasLock n s x2) (fun r5 => if ¬ r5 = 0 then cond (zi_in x1 4) (zp (fX0_freeAt n s 17 (s.1 21 x1.toNatClampNeg)) (fun r10 => zp (fX2_begin n s) (fun s14 => zp (fX0_crewOf n s14 17 x1) (fun r16 => zp (fX2_mustSing n s14 17 x2 r16 r10) (fun s20 => zp (fX2_cheapest n s20 r10) (fun r22 => if 0 ≤ r22 then zp (fX5_clear n s20) (fun s27 => zp (zl (fX11_pays_B108 n r10 r22) n ((0 : Int32), (0 : Int32), s27)) (fun w43 => some (w43.1, w43.2))) else some ((-2 : Int32), s20))))))) none else fX11_pays_J22 n s))
theorem tX11_pays {n : Nat} {c : Nat × Nat} {s : zs} {x1 : Int32} {x2 : Int32} {r : Int32} {s' : zs} (h : fX11_pays n s x1 x2 = some (r, s')) : zc 5 2249 [.ref 0, .int x1, .int x2] (zS c s) (some (.int r)) (zS c s') := by
  refine zc_of (k := kX11_pays) (rt := 1) (L := [some (.ref 0), some (.int x1), some (.int x2), none, none, none, none, none, none]) zm_2249.1 rfl rfl (by decide) rfl rfl ?_
  unfold fX11_pays at h
  refine zr_many 1 (pc' := 1) (L' := [some (.ref 0), some (.int x1), some (.int x2), none, none, none, none, none, none]) (st' := [.ref 0]) (S1 := zS c s) rfl ?_
  refine zq_get rfl (zh_0 _) rfl rfl rfl ?_
  refine zr_many 1 (pc' := 5) (L' := [some (.ref 0), some (.int x1), some (.int x2), none, none, none, none, none, none]) (st' := [.int x1, .ref 5]) (S1 := zS c s) rfl ?_
  obtain ⟨r1, g3, h⟩ := zp_inv h
  refine zq_call1 rfl rfl (zh_5 _) rfl rfl rfl ((tX0_hasBarge g3).up (by decide)) rfl ?_
  refine zq_if1 (b := r1 = 0) rfl Iff.rfl rfl (fun g4 => ?_) (fun g4 => ?_)
  · rw [if_pos g4] at h
    exact zr_wk [none, none, none, none, none, none, none, none, none] trivial (tX11_pays_J22 h)
  · rw [if_neg g4] at h
    refine zr_many 1 (pc' := 12) (L' := [some (.ref 0), some (.int x1), some (.int x2), none, none, none, none, none, none]) (st' := [.ref 0]) (S1 := zS c s) rfl ?_
    refine zq_get rfl (zh_0 _) rfl rfl rfl ?_
    refine zr_many 1 (pc' := 16) (L' := [some (.ref 0), some (.int x1), some (.int x2), none, none, none, none, none, none]) (st' := [.int x2, .ref 5]) (S1 := zS c s) rfl ?_
    obtain ⟨r5, g7, h⟩ := zp_inv h
    refine zq_call1 rfl rfl (zh_5 _) rfl rfl rfl ((tX0_hasLock g7).up (by decide)) rfl ?_
    refine zq_if1 (b := ¬ r5 = 0) rfl Iff.rfl rfl (fun g8 => ?_) (fun g8 => ?_)
    · rw [if_pos g8] at h
      refine zr_many 1 (pc' := 25) (L' := [some (.ref 0), some (.int x1), some (.int x2), none, none, none, none, none, none]) (st' := [.ref 0]) (S1 := zS c s) rfl ?_
      refine zq_get rfl (zh_0 _) rfl rfl rfl ?_
      refine zr_many 1 (pc' := 29) (L' := [some (.ref 0), some (.int x1), some (.int x2), none, none, none, none, none, none]) (st' := [.ref 0, .ref 5]) (S1 := zS c s) rfl ?_
      refine zq_get rfl (zh_0 _) rfl rfl rfl ?_
      refine zr_many 1 (pc' := 33) (L' := [some (.ref 0), some (.int x1), some (.int x2), none, none, none, none, none, none]) (st' := [.ref 0, .ref 17, .ref 5]) (S1 := zS c s) rfl ?_
      refine zq_get rfl (zh_0 _) rfl rfl rfl ?_
      refine zq_get rfl (zh_17 _) rfl rfl rfl ?_
      refine zr_many 1 (pc' := 40) (L' := [some (.ref 0), some (.int x1), some (.int x2), none, none, none, none, none, none]) (st' := [.int x1, .ref 21, .ref 17, .ref 5]) (S1 := zS c s) rfl ?_
      obtain ⟨g9, h⟩ := zi_cond_inv h
      refine zq_ild rfl (zh_21 _) rfl g9 rfl ?_
      obtain ⟨r10, g12, h⟩ := zp_inv h
      refine zq_call1 rfl rfl (zh_5 _) rfl rfl rfl ((tX0_freeAt zM_17 g12).up (by decide)) rfl ?_
      refine zr_many 2 (pc' := 46) (L' := [some (.ref 0), some (.int x1), some (.int x2), some (.int r10), none, none, none, none, none]) (st' := [.ref 0]) (S1 := zS c s) rfl ?_
      refine zq_get rfl (zh_0 _) rfl rfl rfl ?_
      obtain ⟨s14, g15, h⟩ := zp_inv h
      refine zq_call0 rfl rfl (zh_41 _) rfl rfl rfl ((tX2_begin g15).up (by decide)) rfl ?_
      refine zr_many 1 (pc' := 53) (L' := [some (.ref 0), some (.int x1), some (.int x2), some (.int r10), none, none, none, none, none]) (st' := [.ref 0]) (S1 := zS c s14) rfl ?_
      refine zq_get rfl (zh_0 _) rfl rfl rfl ?_
      refine zr_many 1 (pc' := 57) (L' := [some (.ref 0), some (.int x1), some (.int x2), some (.int r10), none, none, none, none, none]) (st' := [.ref 0, .ref 41]) (S1 := zS c s14) rfl ?_
      refine zq_get rfl (zh_0 _) rfl rfl rfl ?_
      refine zr_many 2 (pc' := 62) (L' := [some (.ref 0), some (.int x1), some (.int x2), some (.int r10), none, none, none, none, none]) (st' := [.ref 0, .int x2, .ref 17, .ref 41]) (S1 := zS c s14) rfl ?_
      refine zq_get rfl (zh_0 _) rfl rfl rfl ?_
      refine zr_many 1 (pc' := 66) (L' := [some (.ref 0), some (.int x1), some (.int x2), some (.int r10), none, none, none, none, none]) (st' := [.ref 0, .ref 5, .int x2, .ref 17, .ref 41]) (S1 := zS c s14) rfl ?_
      refine zq_get rfl (zh_0 _) rfl rfl rfl ?_
      refine zr_many 1 (pc' := 70) (L' := [some (.ref 0), some (.int x1), some (.int x2), some (.int r10), none, none, none, none, none]) (st' := [.int x1, .ref 17, .ref 5, .int x2, .ref 17, .ref 41]) (S1 := zS c s14) rfl ?_
      obtain ⟨r16, g18, h⟩ := zp_inv h
      refine zq_call1 rfl rfl (zh_5 _) rfl rfl rfl ((tX0_crewOf zM_17 g18).up (by decide)) rfl ?_
      refine zr_many 1 (pc' := 74) (L' := [some (.ref 0), some (.int x1), some (.int x2), some (.int r10), none, none, none, none, none]) (st' := [.int r10, .int r16, .int x2, .ref 17, .ref 41]) (S1 := zS c s14) rfl ?_
      obtain ⟨s20, g21, h⟩ := zp_inv h
      refine zq_call0 rfl rfl (zh_41 _) rfl rfl rfl (tX2_mustSing zM_17 g21) rfl ?_
      refine zr_many 1 (pc' := 78) (L' := [some (.ref 0), some (.int x1), some (.int x2), some (.int r10), none, none, none, none, none]) (st' := [.ref 0]) (S1 := zS c s20) rfl ?_
      refine zq_get rfl (zh_0 _) rfl rfl rfl ?_
      refine zr_many 1 (pc' := 82) (L' := [some (.ref 0), some (.int x1), some (.int x2), some (.int r10), none, none, none, none, none]) (st' := [.int r10, .ref 41]) (S1 := zS c s20) rfl ?_
      obtain ⟨r22, g24, h⟩ := zp_inv h
      refine zq_call1 rfl rfl (zh_41 _) rfl rfl rfl ((tX2_cheapest g24).up (by decide)) rfl ?_
      refine zr_many 2 (pc' := 89) (L' := [some (.ref 0), some (.int x1), some (.int x2), some (.int r10), some (.int r22), none, none, none, none]) (st' := [.int r22]) (S1 := zS c s20) rfl ?_
      refine zq_if1 (b := 0 ≤ r22) rfl Iff.rfl rfl (fun g25 => ?_) (fun g25 => ?_)
      · rw [if_pos g25] at h
        refine zr_many 3 (pc' := 99) (L' := [some (.ref 0), some (.int x1), some (.int x2), some (.int r10), some (.int r22), some (.int (0 : Int32)), none, none, none]) (st' := [.ref 0]) (S1 := zS c s20) rfl ?_
        refine zq_get rfl (zh_0 _) rfl rfl rfl ?_
        obtain ⟨s27, g28, h⟩ := zp_inv h
        refine zq_call0 rfl rfl (zh_3 _) rfl rfl rfl ((tX5_clear g28).up (by decide)) rfl ?_
        refine zr_many 2 (pc' := 108) (L' := [some (.ref 0), some (.int x1), some (.int x2), some (.int r10), some (.int r22), some (.int (0 : Int32)), some (.int (0 : Int32)), none, none]) (st' := []) (S1 := zS c s27) rfl ?_
        obtain ⟨w43, g44, h⟩ := zp_inv h
        refine zr_wk [some (.ref 0), none, none, some (.int r10), some (.int r22), some (.int (0 : Int32)), some (.int (0 : Int32)), none, none] ⟨rfl, rfl, rfl, rfl, rfl, trivial⟩ (zl_cert (Z := fun w108 => zr kX11_pays 1 4 108 [some (.ref 0), none, none, some (.int r10), some (.int r22), some (.int w108.1), some (.int w108.2.1), none, none] [] (zS c w108.2.2) _ _) (Y := (fun z => zr kX11_pays 1 4 194 [none, none, none, none, none, some (.int z.1), none, none, none] [] (zS c z.2) _ _)) (fun w o h1 h2 h3 => tX11_pays_B108 h1 h2 h3) n _ _ g44 ?_)
        show zr kX11_pays 1 4 194 [none, none, none, none, none, some (.int w43.1), none, none, none] [] (zS c w43.2) _ _
        refine zr_many 1 (pc' := 196) (L' := [none, none, none, none, none, some (.int w43.1), none, none, none]) (st' := [.int w43.1]) (S1 := zS c w43.2) rfl ?_
        obtain ⟨rfl, rfl⟩ := Prod.mk.inj (Option.some.inj h)
        exact zq_iret rfl
      · rw [if_neg g25] at h
        refine zr_many 1 (pc' := 94) (L' := [some (.ref 0), some (.int x1), some (.int x2), some (.int r10), some (.int r22), none, none, none, none]) (st' := [.int (-2 : Int32)]) (S1 := zS c s20) rfl ?_
        obtain ⟨rfl, rfl⟩ := Prod.mk.inj (Option.some.inj h)
        exact zq_iret rfl
    · rw [if_neg g8] at h
      exact zr_wk [none, none, none, none, none, none, none, none, none] trivial (tX11_pays_J22 h)
def fX11_drawNext (n : Nat) (s : zs) (x0 : Int32) : Option Int32 := some ((x0 * (1103515245 : Int32)) + (12345 : Int32))
theorem tX11_drawNext {n : Nat} {c : Nat × Nat} {s : zs} {x0 : Int32} {r : Int32} (h : fX11_drawNext n s x0 = some r) : zc 1 2257 [.int x0] (zS c s) (some (.int r)) (zS c s) := by
  refine zc_of (k := kX11_drawNext) (rt := 1) (L := [some (.int x0)]) zm_2257.1 rfl rfl (by decide) rfl rfl ?_
  unfold fX11_drawNext at h
  refine zr_many 5 (pc' := 9) (L' := [some (.int x0)]) (st' := [.int ((x0 * (1103515245 : Int32)) + (12345 : Int32))]) (S1 := zS c s) rfl ?_
  obtain rfl := Option.some.inj h
  exact zq_iret rfl
def fX11_days_J22 (n : Nat) (s : zs) : Option (Int32 × zs) := some ((-1 : Int32), s)
theorem tX11_days_J22 {n : Nat} {c : Nat × Nat} {s : zs} {r : Int32} {s' : zs} (h : fX11_days_J22 n s = some (r, s')) : zr kX11_days 1 8 22 [none, none, none, none, none, none, none, none] [] (zS c s) (some (.int r)) (zS c s') := by
  unfold fX11_days_J22 at h
  refine zr_many 1 (pc' := 23) (L' := [none, none, none, none, none, none, none, none]) (st' := [.int (-1 : Int32)]) (S1 := zS c s) rfl ?_
  obtain ⟨rfl, rfl⟩ := Prod.mk.inj (Option.some.inj h)
  exact zq_iret rfl
def fX11_days_J128 (n : Nat) (s : zs) (x2 : Int32) (x3 : Int32) (x4 : Int32) (x5 : Int32) : Option ((Int32 × Int32 × Int32 × zs) ⊕ (Int32 × zs)) := some (Sum.inl (x3, x4, (x5 + (1 : Int32)), s))
theorem tX11_days_J128 {n : Nat} {c : Nat × Nat} {s : zs} {x2 : Int32} {x3 : Int32} {x4 : Int32} {x5 : Int32} {o : _} {v : Option Value} {S' : zi_S} (h : fX11_days_J128 n s x2 x3 x4 x5 = some o) (hn : ∀ w43, o = Sum.inl w43 → zr kX11_days 1 8 43 [some (.ref 0), none, some (.int x2), some (.int w43.1), some (.int w43.2.1), some (.int w43.2.2.1), none, none] [] (zS c w43.2.2.2) v S') (hx : ∀ z, o = Sum.inr z → (fun z => zr kX11_days 1 8 134 [some (.ref 0), none, none, some (.int z.1), none, none, none, none] [] (zS c z.2) v S') z) : zr kX11_days 1 8 128 [some (.ref 0), none, some (.int x2), some (.int x3), some (.int x4), some (.int x5), none, none] [] (zS c s) v S' := by
  unfold fX11_days_J128 at h
  refine zr_many 2 (pc' := 43) (L' := [some (.ref 0), none, some (.int x2), some (.int x3), some (.int x4), some (.int (x5 + (1 : Int32))), none, none]) (st' := []) (S1 := zS c s) rfl ?_
  obtain rfl := Option.some.inj h
  exact zr_wk [some (.ref 0), none, some (.int x2), some (.int x3), some (.int x4), some (.int (x5 + (1 : Int32))), none, none] ⟨rfl, rfl, rfl, rfl, rfl, trivial⟩ (hn (x3, x4, (x5 + (1 : Int32)), s) rfl)
def fX11_days_B43 (n : Nat) (x2 : Int32) (w43 : Int32 × Int32 × Int32 × zs) : Option ((Int32 × Int32 × Int32 × zs) ⊕ (Int32 × zs)) := if x2 ≤ w43.2.2.1 then some (Sum.inr (w43.1, w43.2.2.2)) else zp (fX11_drawNext n w43.2.2.2 w43.2.1) (fun r8 => if (w43.2.2.2.1 5 9) = 0 then none else (zp (fX11_drawNext n w43.2.2.2 r8) (fun r11 => if ¬ ((r11.toUInt32 >>> ((16 : Int32).toUInt32 &&& Int32.toUInt32 31)).toInt32 - (r11.toUInt32 >>> ((16 : Int32).toUInt32 &&& Int32.toUInt32 31)).toInt32 / (3 : Int32) * (3 : Int32)) = (2 : Int32) then zb (fX9_go n w43.2.2.2 29 ((r8.toUInt32 >>> ((16 : Int32).toUInt32 &&& Int32.toUInt32 31)).toInt32 - (r8.toUInt32 >>> ((16 : Int32).toUInt32 &&& Int32.toUInt32 31)).toInt32 / (w43.2.2.2.1 5 9) * (w43.2.2.2.1 5 9)) ((1 : Int32) - ((r11.toUInt32 >>> ((16 : Int32).toUInt32 &&& Int32.toUInt32 31)).toInt32 - (r11.toUInt32 >>> ((16 : Int32).toUInt32 &&& Int32.toUInt32 31)).toInt32 / (3 : Int32) * (3 : Int32)))) (fun r15 s16 => if r15 < 0 then fX11_days_J128 n s16 x2 w43.1 r11 w43.2.2.1 else fX11_days_J128 n s16 x2 (w43.1 + (1 : Int32)) r11 w43.2.2.1) else zp (fX3_letGoBy n w43.2.2.2 29 (10 : Int32)) (fun s20 => fX11_days_J128 n s20 x2 w43.1 r11 w43.2.2.1))))
theorem tX11_days_B43 {n : Nat} {c : Nat × Nat} {x2 : Int32} {w43 : Int32 × Int32 × Int32 × zs} {o : _} {v : Option Value} {S' : zi_S} (h : fX11_days_B43 n x2 w43 = some o) (hn : ∀ w43, o = Sum.inl w43 → zr kX11_days 1 8 43 [some (.ref 0), none, some (.int x2), some (.int w43.1), some (.int w43.2.1), some (.int w43.2.2.1), none, none] [] (zS c w43.2.2.2) v S') (hx : ∀ z, o = Sum.inr z → (fun z => zr kX11_days 1 8 134 [some (.ref 0), none, none, some (.int z.1), none, none, none, none] [] (zS c z.2) v S') z) : zr kX11_days 1 8 43 [some (.ref 0), none, some (.int x2), some (.int w43.1), some (.int w43.2.1), some (.int w43.2.2.1), none, none] [] (zS c w43.2.2.2) v S' := by
  unfold fX11_days_B43 at h
  refine zr_many 2 (pc' := 46) (L' := [some (.ref 0), none, some (.int x2), some (.int w43.1), some (.int w43.2.1), some (.int w43.2.2.1), none, none]) (st' := [.int x2, .int w43.2.2.1]) (S1 := zS c w43.2.2.2) rfl ?_
  refine zq_if2 (b := x2 ≤ w43.2.2.1) rfl Iff.rfl rfl (fun g7 => ?_) (fun g7 => ?_)
  · rw [if_pos g7] at h
    obtain rfl := Option.some.inj h
    exact zr_wk [some (.ref 0), none, none, some (.int w43.1), none, none, none, none] ⟨rfl, rfl, trivial⟩ (hx (w43.1, w43.2.2.2) rfl)
  · rw [if_neg g7] at h
    refine zr_many 1 (pc' := 51) (L' := [some (.ref 0), none, some (.int x2), some (.int w43.1), some (.int w43.2.1), some (.int w43.2.2.1), none, none]) (st' := [.int w43.2.1]) (S1 := zS c w43.2.2.2) rfl ?_
    obtain ⟨r8, g10, h⟩ := zp_inv h
    refine zq_scall1 rfl (by decide) rfl rfl ((tX11_drawNext g10).up (by decide)) rfl ?_
    refine zr_many 5 (pc' := 62) (L' := [some (.ref 0), none, some (.int x2), some (.int w43.1), some (.int r8), some (.int w43.2.2.1), none, none]) (st' := [.ref 0, .int (r8.toUInt32 >>> ((16 : Int32).toUInt32 &&& Int32.toUInt32 31)).toInt32]) (S1 := zS c w43.2.2.2) rfl ?_
    refine zq_get rfl (zh_0 _) rfl rfl rfl ?_
    refine zq_get rfl (zh_5 _) rfl rfl rfl ?_
    obtain ⟨g22, h⟩ := zn_inv h
    refine zq_irem rfl g22 rfl ?_
    refine zr_many 2 (pc' := 73) (L' := [some (.ref 0), none, some (.int x2), some (.int w43.1), some (.int r8), some (.int w43.2.2.1), some (.int ((r8.toUInt32 >>> ((16 : Int32).toUInt32 &&& Int32.toUInt32 31)).toInt32 - (r8.toUInt32 >>> ((16 : Int32).toUInt32 &&& Int32.toUInt32 31)).toInt32 / (w43.2.2.2.1 5 9) * (w43.2.2.2.1 5 9))), none]) (st' := [.int r8]) (S1 := zS c w43.2.2.2) rfl ?_
    obtain ⟨r11, g13, h⟩ := zp_inv h
    refine zq_scall1 rfl (by decide) rfl rfl ((tX11_drawNext g13).up (by decide)) rfl ?_
    refine zr_many 5 (pc' := 84) (L' := [some (.ref 0), none, some (.int x2), some (.int w43.1), some (.int r11), some (.int w43.2.2.1), some (.int ((r8.toUInt32 >>> ((16 : Int32).toUInt32 &&& Int32.toUInt32 31)).toInt32 - (r8.toUInt32 >>> ((16 : Int32).toUInt32 &&& Int32.toUInt32 31)).toInt32 / (w43.2.2.2.1 5 9) * (w43.2.2.2.1 5 9))), none]) (st' := [.int (3 : Int32), .int (r11.toUInt32 >>> ((16 : Int32).toUInt32 &&& Int32.toUInt32 31)).toInt32]) (S1 := zS c w43.2.2.2) rfl ?_
    refine zq_irem rfl (by decide) rfl ?_
    refine zr_many 3 (pc' := 90) (L' := [some (.ref 0), none, some (.int x2), some (.int w43.1), some (.int r11), some (.int w43.2.2.1), some (.int ((r8.toUInt32 >>> ((16 : Int32).toUInt32 &&& Int32.toUInt32 31)).toInt32 - (r8.toUInt32 >>> ((16 : Int32).toUInt32 &&& Int32.toUInt32 31)).toInt32 / (w43.2.2.2.1 5 9) * (w43.2.2.2.1 5 9))), some (.int ((r11.toUInt32 >>> ((16 : Int32).toUInt32 &&& Int32.toUInt32 31)).toInt32 - (r11.toUInt32 >>> ((16 : Int32).toUInt32 &&& Int32.toUInt32 31)).toInt32 / (3 : Int32) * (3 : Int32)))]) (st' := [.int (2 : Int32), .int ((r11.toUInt32 >>> ((16 : Int32).toUInt32 &&& Int32.toUInt32 31)).toInt32 - (r11.toUInt32 >>> ((16 : Int32).toUInt32 &&& Int32.toUInt32 31)).toInt32 / (3 : Int32) * (3 : Int32))]) (S1 := zS c w43.2.2.2) rfl ?_
    refine zq_if2 (b := ¬ ((r11.toUInt32 >>> ((16 : Int32).toUInt32 &&& Int32.toUInt32 31)).toInt32 - (r11.toUInt32 >>> ((16 : Int32).toUInt32 &&& Int32.toUInt32 31)).toInt32 / (3 : Int32) * (3 : Int32)) = (2 : Int32)) rfl Iff.rfl rfl (fun g14 => ?_) (fun g14 => ?_)
    · rw [if_pos g14] at h
      refine zr_many 1 (pc' := 106) (L' := [some (.ref 0), none, some (.int x2), some (.int w43.1), some (.int r11), some (.int w43.2.2.1), some (.int ((r8.toUInt32 >>> ((16 : Int32).toUInt32 &&& Int32.toUInt32 31)).toInt32 - (r8.toUInt32 >>> ((16 : Int32).toUInt32 &&& Int32.toUInt32 31)).toInt32 / (w43.2.2.2.1 5 9) * (w43.2.2.2.1 5 9))), some (.int ((r11.toUInt32 >>> ((16 : Int32).toUInt32 &&& Int32.toUInt32 31)).toInt32 - (r11.toUInt32 >>> ((16 : Int32).toUInt32 &&& Int32.toUInt32 31)).toInt32 / (3 : Int32) * (3 : Int32)))]) (st' := [.ref 0]) (S1 := zS c w43.2.2.2) rfl ?_
      refine zq_get rfl (zh_0 _) rfl rfl rfl ?_
      refine zr_many 1 (pc' := 110) (L' := [some (.ref 0), none, some (.int x2), some (.int w43.1), some (.int r11), some (.int w43.2.2.1), some (.int ((r8.toUInt32 >>> ((16 : Int32).toUInt32 &&& Int32.toUInt32 31)).toInt32 - (r8.toUInt32 >>> ((16 : Int32).toUInt32 &&& Int32.toUInt32 31)).toInt32 / (w43.2.2.2.1 5 9) * (w43.2.2.2.1 5 9))), some (.int ((r11.toUInt32 >>> ((16 : Int32).toUInt32 &&& Int32.toUInt32 31)).toInt32 - (r11.toUInt32 >>> ((16 : Int32).toUInt32 &&& Int32.toUInt32 31)).toInt32 / (3 : Int32) * (3 : Int32)))]) (st' := [.ref 0, .ref 38]) (S1 := zS c w43.2.2.2) rfl ?_
      refine zq_get rfl (zh_0 _) rfl rfl rfl ?_
      refine zr_many 4 (pc' := 119) (L' := [some (.ref 0), none, some (.int x2), some (.int w43.1), some (.int r11), some (.int w43.2.2.1), some (.int ((r8.toUInt32 >>> ((16 : Int32).toUInt32 &&& Int32.toUInt32 31)).toInt32 - (r8.toUInt32 >>> ((16 : Int32).toUInt32 &&& Int32.toUInt32 31)).toInt32 / (w43.2.2.2.1 5 9) * (w43.2.2.2.1 5 9))), some (.int ((r11.toUInt32 >>> ((16 : Int32).toUInt32 &&& Int32.toUInt32 31)).toInt32 - (r11.toUInt32 >>> ((16 : Int32).toUInt32 &&& Int32.toUInt32 31)).toInt32 / (3 : Int32) * (3 : Int32)))]) (st' := [.int ((1 : Int32) - ((r11.toUInt32 >>> ((16 : Int32).toUInt32 &&& Int32.toUInt32 31)).toInt32 - (r11.toUInt32 >>> ((16 : Int32).toUInt32 &&& Int32.toUInt32 31)).toInt32 / (3 : Int32) * (3 : Int32))), .int ((r8.toUInt32 >>> ((16 : Int32).toUInt32 &&& Int32.toUInt32 31)).toInt32 - (r8.toUInt32 >>> ((16 : Int32).toUInt32 &&& Int32.toUInt32 31)).toInt32 / (w43.2.2.2.1 5 9) * (w43.2.2.2.1 5 9)), .ref 29, .ref 38]) (S1 := zS c w43.2.2.2) rfl ?_
      obtain ⟨r15, s16, g17, h⟩ := zb_inv h
      refine zq_call1 rfl rfl (zh_38 _) rfl rfl rfl (tX9_go zM_29 g17) rfl ?_
      refine zq_if1 (b := r15 < 0) rfl Iff.rfl rfl (fun g18 => ?_) (fun g18 => ?_)
      · rw [if_pos g18] at h
        exact zr_wk [some (.ref 0), none, some (.int x2), some (.int w43.1), some (.int r11), some (.int w43.2.2.1), none, none] ⟨rfl, rfl, rfl, rfl, rfl, trivial⟩ (tX11_days_J128 h hn hx)
      · rw [if_neg g18] at h
        refine zr_many 1 (pc' := 128) (L' := [some (.ref 0), none, some (.int x2), some (.int (w43.1 + (1 : Int32))), some (.int r11), some (.int w43.2.2.1), some (.int ((r8.toUInt32 >>> ((16 : Int32).toUInt32 &&& Int32.toUInt32 31)).toInt32 - (r8.toUInt32 >>> ((16 : Int32).toUInt32 &&& Int32.toUInt32 31)).toInt32 / (w43.2.2.2.1 5 9) * (w43.2.2.2.1 5 9))), some (.int ((r11.toUInt32 >>> ((16 : Int32).toUInt32 &&& Int32.toUInt32 31)).toInt32 - (r11.toUInt32 >>> ((16 : Int32).toUInt32 &&& Int32.toUInt32 31)).toInt32 / (3 : Int32) * (3 : Int32)))]) (st' := []) (S1 := zS c s16) rfl ?_
        exact zr_wk [some (.ref 0), none, some (.int x2), some (.int (w43.1 + (1 : Int32))), some (.int r11), some (.int w43.2.2.1), none, none] ⟨rfl, rfl, rfl, rfl, rfl, trivial⟩ (tX11_days_J128 h hn hx)
    · rw [if_neg g14] at h
      refine zr_many 1 (pc' := 94) (L' := [some (.ref 0), none, some (.int x2), some (.int w43.1), some (.int r11), some (.int w43.2.2.1), some (.int ((r8.toUInt32 >>> ((16 : Int32).toUInt32 &&& Int32.toUInt32 31)).toInt32 - (r8.toUInt32 >>> ((16 : Int32).toUInt32 &&& Int32.toUInt32 31)).toInt32 / (w43.2.2.2.1 5 9) * (w43.2.2.2.1 5 9))), some (.int ((r11.toUInt32 >>> ((16 : Int32).toUInt32 &&& Int32.toUInt32 31)).toInt32 - (r11.toUInt32 >>> ((16 : Int32).toUInt32 &&& Int32.toUInt32 31)).toInt32 / (3 : Int32) * (3 : Int32)))]) (st' := [.ref 0]) (S1 := zS c w43.2.2.2) rfl ?_
      refine zq_get rfl (zh_0 _) rfl rfl rfl ?_
      refine zr_many 1 (pc' := 99) (L' := [some (.ref 0), none, some (.int x2), some (.int w43.1), some (.int r11), some (.int w43.2.2.1), some (.int ((r8.toUInt32 >>> ((16 : Int32).toUInt32 &&& Int32.toUInt32 31)).toInt32 - (r8.toUInt32 >>> ((16 : Int32).toUInt32 &&& Int32.toUInt32 31)).toInt32 / (w43.2.2.2.1 5 9) * (w43.2.2.2.1 5 9))), some (.int ((r11.toUInt32 >>> ((16 : Int32).toUInt32 &&& Int32.toUInt32 31)).toInt32 - (r11.toUInt32 >>> ((16 : Int32).toUInt32 &&& Int32.toUInt32 31)).toInt32 / (3 : Int32) * (3 : Int32)))]) (st' := [.int (10 : Int32), .ref 29]) (S1 := zS c w43.2.2.2) rfl ?_
      obtain ⟨s20, g21, h⟩ := zp_inv h
      refine zq_call0 rfl rfl (zh_29 _) rfl rfl rfl ((tX3_letGoBy zM_29 g21).up (by decide)) rfl ?_
      refine zr_many 1 (pc' := 128) (L' := [some (.ref 0), none, some (.int x2), some (.int w43.1), some (.int r11), some (.int w43.2.2.1), some (.int ((r8.toUInt32 >>> ((16 : Int32).toUInt32 &&& Int32.toUInt32 31)).toInt32 - (r8.toUInt32 >>> ((16 : Int32).toUInt32 &&& Int32.toUInt32 31)).toInt32 / (w43.2.2.2.1 5 9) * (w43.2.2.2.1 5 9))), some (.int ((r11.toUInt32 >>> ((16 : Int32).toUInt32 &&& Int32.toUInt32 31)).toInt32 - (r11.toUInt32 >>> ((16 : Int32).toUInt32 &&& Int32.toUInt32 31)).toInt32 / (3 : Int32) * (3 : Int32)))]) (st' := []) (S1 := zS c s20) rfl ?_
      exact zr_wk [some (.ref 0), none, some (.int x2), some (.int w43.1), some (.int r11), some (.int w43.2.2.1), none, none] ⟨rfl, rfl, rfl, rfl, rfl, trivial⟩ (tX11_days_J128 h hn hx)
def fX11_days (n : Nat) (s : zs) (x1 : Int32) (x2 : Int32) : Option (Int32 × zs) := if x2 < (1 : Int32) then fX11_days_J22 n s else if (60 : Int32) < x2 then fX11_days_J22 n s else if (1 : Int32) ≤ (s.1 5 9) then zp (fX3_copy n s 29 17) (fun s5 => zp (zl (fX11_days_B43 n x2) n ((0 : Int32), x1, (0 : Int32), s5)) (fun w23 => zp (fX5_tell n w23.2 (((w23.2.1 29 2) - (w23.2.1 17 2)).toInt64)) (fun s25 => zp (fX5_add n s25 ((s25.1 29 1).toInt64)) (fun s28 => some (w23.1, s28))))) else fX11_days_J22 n s
theorem tX11_days {n : Nat} {c : Nat × Nat} {s : zs} {x1 : Int32} {x2 : Int32} {r : Int32} {s' : zs} (h : fX11_days n s x1 x2 = some (r, s')) : zc 9 2256 [.ref 0, .int x1, .int x2] (zS c s) (some (.int r)) (zS c s') := by
  refine zc_of (k := kX11_days) (rt := 1) (L := [some (.ref 0), some (.int x1), some (.int x2), none, none, none, none, none]) zm_2256.1 rfl rfl (by decide) rfl rfl ?_
  unfold fX11_days at h
  refine zr_many 2 (pc' := 2) (L' := [some (.ref 0), some (.int x1), some (.int x2), none, none, none, none, none]) (st' := [.int (1 : Int32), .int x2]) (S1 := zS c s) rfl ?_
  refine zq_if2 (b := x2 < (1 : Int32)) rfl Iff.rfl rfl (fun g1 => ?_) (fun g1 => ?_)
  · rw [if_pos g1] at h
    exact zr_wk [none, none, none, none, none, none, none, none] trivial (tX11_days_J22 h)
  · rw [if_neg g1] at h
    refine zr_many 2 (pc' := 8) (L' := [some (.ref 0), some (.int x1), some (.int x2), none, none, none, none, none]) (st' := [.int (60 : Int32), .int x2]) (S1 := zS c s) rfl ?_
    refine zq_if2 (b := (60 : Int32) < x2) rfl Iff.rfl rfl (fun g2 => ?_) (fun g2 => ?_)
    · rw [if_pos g2] at h
      exact zr_wk [none, none, none, none, none, none, none, none] trivial (tX11_days_J22 h)
    · rw [if_neg g2] at h
      refine zr_many 1 (pc' := 12) (L' := [some (.ref 0), some (.int x1), some (.int x2), none, none, none, none, none]) (st' := [.ref 0]) (S1 := zS c s) rfl ?_
      refine zq_get rfl (zh_0 _) rfl rfl rfl ?_
      refine zq_get rfl (zh_5 _) rfl rfl rfl ?_
      refine zr_many 1 (pc' := 19) (L' := [some (.ref 0), some (.int x1), some (.int x2), none, none, none, none, none]) (st' := [.int (1 : Int32), .int (s.1 5 9)]) (S1 := zS c s) rfl ?_
      refine zq_if2 (b := (1 : Int32) ≤ (s.1 5 9)) rfl Iff.rfl rfl (fun g3 => ?_) (fun g3 => ?_)
      · rw [if_pos g3] at h
        refine zr_many 1 (pc' := 25) (L' := [some (.ref 0), some (.int x1), some (.int x2), none, none, none, none, none]) (st' := [.ref 0]) (S1 := zS c s) rfl ?_
        refine zq_get rfl (zh_0 _) rfl rfl rfl ?_
        refine zr_many 1 (pc' := 29) (L' := [some (.ref 0), some (.int x1), some (.int x2), none, none, none, none, none]) (st' := [.ref 0, .ref 29]) (S1 := zS c s) rfl ?_
        refine zq_get rfl (zh_0 _) rfl rfl rfl ?_
        obtain ⟨s5, g6, h⟩ := zp_inv h
        refine zq_call0 rfl rfl (zh_29 _) rfl rfl rfl ((tX3_copy zM_29 zM_17 g6).up (by decide)) rfl ?_
        refine zr_many 6 (pc' := 43) (L' := [some (.ref 0), some (.int x1), some (.int x2), some (.int (0 : Int32)), some (.int x1), some (.int (0 : Int32)), none, none]) (st' := []) (S1 := zS c s5) rfl ?_
        obtain ⟨w23, g30, h⟩ := zp_inv h
        refine zr_wk [some (.ref 0), none, some (.int x2), some (.int (0 : Int32)), some (.int x1), some (.int (0 : Int32)), none, none] ⟨rfl, rfl, rfl, rfl, rfl, trivial⟩ (zl_cert (Z := fun w43 => zr kX11_days 1 8 43 [some (.ref 0), none, some (.int x2), some (.int w43.1), some (.int w43.2.1), some (.int w43.2.2.1), none, none] [] (zS c w43.2.2.2) _ _) (Y := (fun z => zr kX11_days 1 8 134 [some (.ref 0), none, none, some (.int z.1), none, none, none, none] [] (zS c z.2) _ _)) (fun w o h1 h2 h3 => tX11_days_B43 h1 h2 h3) n _ _ g30 ?_)
        show zr kX11_days 1 8 134 [some (.ref 0), none, none, some (.int w23.1), none, none, none, none] [] (zS c w23.2) _ _
        refine zr_many 1 (pc' := 135) (L' := [some (.ref 0), none, none, some (.int w23.1), none, none, none, none]) (st' := [.ref 0]) (S1 := zS c w23.2) rfl ?_
        refine zq_get rfl (zh_0 _) rfl rfl rfl ?_
        refine zr_many 1 (pc' := 139) (L' := [some (.ref 0), none, none, some (.int w23.1), none, none, none, none]) (st' := [.ref 0, .ref 3]) (S1 := zS c w23.2) rfl ?_
        refine zq_get rfl (zh_0 _) rfl rfl rfl ?_
        refine zq_get rfl (zh_29 _) rfl rfl rfl ?_
        refine zr_many 1 (pc' := 146) (L' := [some (.ref 0), none, none, some (.int w23.1), none, none, none, none]) (st' := [.ref 0, .int (w23.2.1 29 2), .ref 3]) (S1 := zS c w23.2) rfl ?_
        refine zq_get rfl (zh_0 _) rfl rfl rfl ?_
        refine zq_get rfl (zh_17 _) rfl rfl rfl ?_
        refine zr_many 2 (pc' := 154) (L' := [some (.ref 0), none, none, some (.int w23.1), none, none, none, none]) (st' := [.long ((w23.2.1 29 2) - (w23.2.1 17 2)).toInt64, .ref 3]) (S1 := zS c w23.2) rfl ?_
        obtain ⟨s25, g26, h⟩ := zp_inv h
        refine zq_call0 rfl rfl (zh_3 _) rfl rfl rfl ((tX5_tell g26).up (by decide)) rfl ?_
        refine zr_many 1 (pc' := 158) (L' := [some (.ref 0), none, none, some (.int w23.1), none, none, none, none]) (st' := [.ref 0]) (S1 := zS c s25) rfl ?_
        refine zq_get rfl (zh_0 _) rfl rfl rfl ?_
        refine zr_many 1 (pc' := 162) (L' := [some (.ref 0), none, none, some (.int w23.1), none, none, none, none]) (st' := [.ref 0, .ref 3]) (S1 := zS c s25) rfl ?_
        refine zq_get rfl (zh_0 _) rfl rfl rfl ?_
        refine zq_get rfl (zh_29 _) rfl rfl rfl ?_
        refine zr_many 1 (pc' := 169) (L' := [some (.ref 0), none, none, some (.int w23.1), none, none, none, none]) (st' := [.long (s25.1 29 1).toInt64, .ref 3]) (S1 := zS c s25) rfl ?_
        obtain ⟨s28, g29, h⟩ := zp_inv h
        refine zq_call0 rfl rfl (zh_3 _) rfl rfl rfl ((tX5_add g29).up (by decide)) rfl ?_
        refine zr_many 1 (pc' := 173) (L' := [some (.ref 0), none, none, some (.int w23.1), none, none, none, none]) (st' := [.int w23.1]) (S1 := zS c s28) rfl ?_
        obtain ⟨rfl, rfl⟩ := Prod.mk.inj (Option.some.inj h)
        exact zq_iret rfl
      · rw [if_neg g3] at h
        exact zr_wk [none, none, none, none, none, none, none, none] trivial (tX11_days_J22 h)
def fX11_keep_J9 (n : Nat) (s : zs) : Option (Int32 × zs) := some ((0 : Int32), s)
theorem tX11_keep_J9 {n : Nat} {c : Nat × Nat} {s : zs} {r : Int32} {s' : zs} (h : fX11_keep_J9 n s = some (r, s')) : zr kX11_keep 2 1 9 [none, none] [] (zS c s) (some (.int r)) (zS c s') := by
  unfold fX11_keep_J9 at h
  refine zr_many 1 (pc' := 10) (L' := [none, none]) (st' := [.int (0 : Int32)]) (S1 := zS c s) rfl ?_
  obtain ⟨rfl, rfl⟩ := Prod.mk.inj (Option.some.inj h)
  exact zq_zret rfl (by decide)
def fX11_keep (n : Nat) (s : zs) (x1 : Int32) : Option (Int32 × zs) := if x1 < 0 then fX11_keep_J9 n s else if x1 < (3 : Int32) then cond (zi_in x1 3) (zp (fX3_copy n s (143 + 6 * x1.toNatClampNeg) 17) (fun s5 => some ((1 : Int32), (zsi s5 0 14 ((s5.1 0 14) ||| ((1 : Int32) <<< (x1 &&& 31))))))) none else fX11_keep_J9 n s
theorem tX11_keep {n : Nat} {c : Nat × Nat} {s : zs} {x1 : Int32} {r : Int32} {s' : zs} (h : fX11_keep n s x1 = some (r, s')) : zc 2 2258 [.ref 0, .int x1] (zS c s) (some (.int r)) (zS c s') := by
  refine zc_of (k := kX11_keep) (rt := 2) (L := [some (.ref 0), some (.int x1)]) zm_2258.1 rfl rfl (by decide) rfl rfl ?_
  unfold fX11_keep at h
  refine zr_many 1 (pc' := 1) (L' := [some (.ref 0), some (.int x1)]) (st' := [.int x1]) (S1 := zS c s) rfl ?_
  refine zq_if1 (b := x1 < 0) rfl Iff.rfl rfl (fun g1 => ?_) (fun g1 => ?_)
  · rw [if_pos g1] at h
    exact zr_wk [none, none] trivial (tX11_keep_J9 h)
  · rw [if_neg g1] at h
    refine zr_many 2 (pc' := 6) (L' := [some (.ref 0), some (.int x1)]) (st' := [.int (3 : Int32), .int x1]) (S1 := zS c s) rfl ?_
    refine zq_if2 (b := x1 < (3 : Int32)) rfl Iff.rfl rfl (fun g2 => ?_) (fun g2 => ?_)
    · rw [if_pos g2] at h
      refine zr_many 1 (pc' := 12) (L' := [some (.ref 0), some (.int x1)]) (st' := [.ref 0]) (S1 := zS c s) rfl ?_
      refine zq_get rfl (zh_0 _) rfl rfl rfl ?_
      refine zr_many 1 (pc' := 16) (L' := [some (.ref 0), some (.int x1)]) (st' := [.int x1, .ref 141]) (S1 := zS c s) rfl ?_
      obtain ⟨g3, h⟩ := zi_cond_inv h
      refine zq_ald rfl (zh_141 _) rfl g3 rfl ?_
      refine zr_many 1 (pc' := 18) (L' := [some (.ref 0), some (.int x1)]) (st' := [.ref 0, .ref (143 + 6 * x1.toNatClampNeg)]) (S1 := zS c s) rfl ?_
      refine zq_get rfl (zh_0 _) rfl rfl rfl ?_
      obtain ⟨s5, g6, h⟩ := zp_inv h
      refine zq_call0 rfl rfl (zhM_0 (zM_143 g3) _) rfl (zM_lt (j := 0) (zM_143 g3) (by decide)) rfl (tX3_copy (zM_143 g3) zM_17 g6) rfl ?_
      refine zr_many 2 (pc' := 26) (L' := [some (.ref 0), some (.int x1)]) (st' := [.ref 0, .ref 0]) (S1 := zS c s5) rfl ?_
      refine zq_get rfl (zh_0 _) rfl rfl rfl ?_
      refine zr_many 4 (pc' := 33) (L' := [some (.ref 0), some (.int x1)]) (st' := [.int ((s5.1 0 14) ||| ((1 : Int32) <<< (x1 &&& 31))), .ref 0]) (S1 := zS c s5) rfl ?_
      refine zq_put (s' := (zsi s5 0 14 ((s5.1 0 14) ||| ((1 : Int32) <<< (x1 &&& 31))))) rfl (zh_0 _) rfl rfl rfl rfl zsi_ne rfl ?_
      refine zr_many 1 (pc' := 37) (L' := [some (.ref 0), some (.int x1)]) (st' := [.int (1 : Int32)]) (S1 := zS c (zsi s5 0 14 ((s5.1 0 14) ||| ((1 : Int32) <<< (x1 &&& 31))))) rfl ?_
      obtain ⟨rfl, rfl⟩ := Prod.mk.inj (Option.some.inj h)
      exact zq_zret rfl (by decide)
    · rw [if_neg g2] at h
      exact zr_wk [none, none] trivial (tX11_keep_J9 h)
def fX11_again_J20 (n : Nat) (s : zs) : Option (Int32 × zs) := some ((0 : Int32), s)
theorem tX11_again_J20 {n : Nat} {c : Nat × Nat} {s : zs} {r : Int32} {s' : zs} (h : fX11_again_J20 n s = some (r, s')) : zr kX11_again 2 1 20 [none, none] [] (zS c s) (some (.int r)) (zS c s') := by
  unfold fX11_again_J20 at h
  refine zr_many 1 (pc' := 21) (L' := [none, none]) (st' := [.int (0 : Int32)]) (S1 := zS c s) rfl ?_
  obtain ⟨rfl, rfl⟩ := Prod.mk.inj (Option.some.inj h)
  exact zq_zret rfl (by decide)
def fX11_again (n : Nat) (s : zs) (x1 : Int32) : Option (Int32 × zs) := if x1 < 0 then fX11_again_J20 n s else if (3 : Int32) ≤ x1 then fX11_again_J20 n s else if ¬ ((s.1 0 14) &&& ((1 : Int32) <<< (x1 &&& 31))) = 0 then cond (zi_in x1 3) (zp (fX3_copy n s 17 (143 + 6 * x1.toNatClampNeg)) (fun s6 => zp (fX6_clear n s6) (fun s9 => some ((1 : Int32), s9)))) none else fX11_again_J20 n s
theorem tX11_again {n : Nat} {c : Nat × Nat} {s : zs} {x1 : Int32} {r : Int32} {s' : zs} (h : fX11_again n s x1 = some (r, s')) : zc 2 2259 [.ref 0, .int x1] (zS c s) (some (.int r)) (zS c s') := by
  refine zc_of (k := kX11_again) (rt := 2) (L := [some (.ref 0), some (.int x1)]) zm_2259.1 rfl rfl (by decide) rfl rfl ?_
  unfold fX11_again at h
  refine zr_many 1 (pc' := 1) (L' := [some (.ref 0), some (.int x1)]) (st' := [.int x1]) (S1 := zS c s) rfl ?_
  refine zq_if1 (b := x1 < 0) rfl Iff.rfl rfl (fun g1 => ?_) (fun g1 => ?_)
  · rw [if_pos g1] at h
    exact zr_wk [none, none] trivial (tX11_again_J20 h)
  · rw [if_neg g1] at h
    refine zr_many 2 (pc' := 6) (L' := [some (.ref 0), some (.int x1)]) (st' := [.int (3 : Int32), .int x1]) (S1 := zS c s) rfl ?_
    refine zq_if2 (b := (3 : Int32) ≤ x1) rfl Iff.rfl rfl (fun g2 => ?_) (fun g2 => ?_)
    · rw [if_pos g2] at h
      exact zr_wk [none, none] trivial (tX11_again_J20 h)
    · rw [if_neg g2] at h
      refine zr_many 1 (pc' := 10) (L' := [some (.ref 0), some (.int x1)]) (st' := [.ref 0]) (S1 := zS c s) rfl ?_
      refine zq_get rfl (zh_0 _) rfl rfl rfl ?_
      refine zr_many 4 (pc' := 17) (L' := [some (.ref 0), some (.int x1)]) (st' := [.int ((s.1 0 14) &&& ((1 : Int32) <<< (x1 &&& 31)))]) (S1 := zS c s) rfl ?_
      refine zq_if1 (b := ¬ ((s.1 0 14) &&& ((1 : Int32) <<< (x1 &&& 31))) = 0) rfl Iff.rfl rfl (fun g3 => ?_) (fun g3 => ?_)
      · rw [if_pos g3] at h
        refine zr_many 1 (pc' := 23) (L' := [some (.ref 0), some (.int x1)]) (st' := [.ref 0]) (S1 := zS c s) rfl ?_
        refine zq_get rfl (zh_0 _) rfl rfl rfl ?_
        refine zr_many 1 (pc' := 27) (L' := [some (.ref 0), some (.int x1)]) (st' := [.ref 0, .ref 17]) (S1 := zS c s) rfl ?_
        refine zq_get rfl (zh_0 _) rfl rfl rfl ?_
        refine zr_many 1 (pc' := 31) (L' := [some (.ref 0), some (.int x1)]) (st' := [.int x1, .ref 141, .ref 17]) (S1 := zS c s) rfl ?_
        obtain ⟨g4, h⟩ := zi_cond_inv h
        refine zq_ald rfl (zh_141 _) rfl g4 rfl ?_
        obtain ⟨s6, g7, h⟩ := zp_inv h
        refine zq_call0 rfl rfl (zh_17 _) rfl rfl rfl (tX3_copy zM_17 (zM_143 g4) g7) rfl ?_
        refine zr_many 1 (pc' := 36) (L' := [some (.ref 0), some (.int x1)]) (st' := [.ref 0]) (S1 := zS c s6) rfl ?_
        refine zq_get rfl (zh_0 _) rfl rfl rfl ?_
        obtain ⟨s9, g10, h⟩ := zp_inv h
        refine zq_call0 rfl rfl (zh_49 _) rfl rfl rfl (tX6_clear g10) rfl ?_
        refine zr_many 1 (pc' := 43) (L' := [some (.ref 0), some (.int x1)]) (st' := [.int (1 : Int32)]) (S1 := zS c s9) rfl ?_
        obtain ⟨rfl, rfl⟩ := Prod.mk.inj (Option.some.inj h)
        exact zq_zret rfl (by decide)
      · rw [if_neg g3] at h
        exact zr_wk [none, none] trivial (tX11_again_J20 h)
def fX11_count_J68 (n : Nat) (s : zs) (x1 : Int32) : Option Int32 := zp (fX0_many n s x1) (fun r2 => some r2)
theorem tX11_count_J68 {n : Nat} {c : Nat × Nat} {s : zs} {x1 : Int32} {r : Int32} (h : fX11_count_J68 n s x1 = some r) : zr kX11_count 1 1 68 [some (.ref 0), some (.int x1)] [] (zS c s) (some (.int r)) (zS c s) := by
  unfold fX11_count_J68 at h
  refine zr_many 1 (pc' := 69) (L' := [some (.ref 0), some (.int x1)]) (st' := [.ref 0]) (S1 := zS c s) rfl ?_
  refine zq_get rfl (zh_0 _) rfl rfl rfl ?_
  refine zr_many 1 (pc' := 73) (L' := [some (.ref 0), some (.int x1)]) (st' := [.int x1, .ref 5]) (S1 := zS c s) rfl ?_
  obtain ⟨r2, g4, h⟩ := zp_inv h
  refine zq_call1 rfl rfl (zh_5 _) rfl rfl rfl (tX0_many g4) rfl ?_
  obtain rfl := Option.some.inj h
  exact zq_iret rfl
def fX11_count (n : Nat) (s : zs) (x1 : Int32) : Option Int32 := if x1 = (0 : Int32) then fX11_count_J68 n s x1 else if x1 = (1 : Int32) then fX11_count_J68 n s x1 else if x1 = (2 : Int32) then fX11_count_J68 n s x1 else if x1 = (3 : Int32) then some (s.1 17 2) else if x1 = (4 : Int32) then some (s.1 17 1) else if x1 = (5 : Int32) then some (s.1 5 10) else if x1 = (6 : Int32) then some (s.1 17 0) else if x1 = (7 : Int32) then zp (fX0_crewOf n s 17 (-1 : Int32)) (fun r12 => some r12) else if x1 = (8 : Int32) then zp (fX0_tiredOf n s 17 (((1 : Int32) <<< ((s.1 5 8) &&& 31)) - (1 : Int32))) (fun r16 => some r16) else if x1 = (9 : Int32) then zp (fX4_size n s) (fun r20 => some r20) else if x1 = (10 : Int32) then zp (fX6_size n s) (fun r24 => some r24) else if x1 = (11 : Int32) then zp (fX5_size n s) (fun r28 => some r28) else if x1 = (12 : Int32) then zp (fX8_length n s) (fun r32 => some r32) else some (-100 : Int32)
theorem tX11_count {n : Nat} {c : Nat × Nat} {s : zs} {x1 : Int32} {r : Int32} (h : fX11_count n s x1 = some r) : zc 2 2260 [.ref 0, .int x1] (zS c s) (some (.int r)) (zS c s) := by
  refine zc_of (k := kX11_count) (rt := 1) (L := [some (.ref 0), some (.int x1)]) zm_2260.1 rfl rfl (by decide) rfl rfl ?_
  unfold fX11_count at h
  refine zr_many 1 (pc' := 1) (L' := [some (.ref 0), some (.int x1)]) (st' := [.int x1]) (S1 := zS c s) rfl ?_
  refine zq_sw (Or.inl ⟨_, _, _, _, rfl⟩) ?_
  by_cases g1 : x1 = (0 : Int32)
  · rw [if_pos g1] at h
    rw [zi_sw_pos g1]
    exact zr_wk [some (.ref 0), some (.int x1)] ⟨rfl, rfl, trivial⟩ (tX11_count_J68 h)
  rw [if_neg g1] at h
  rw [zi_sw_neg g1]
  by_cases g5 : x1 = (1 : Int32)
  · rw [if_pos g5] at h
    rw [zi_sw_pos g5]
    exact zr_wk [some (.ref 0), some (.int x1)] ⟨rfl, rfl, trivial⟩ (tX11_count_J68 h)
  rw [if_neg g5] at h
  rw [zi_sw_neg g5]
  by_cases g6 : x1 = (2 : Int32)
  · rw [if_pos g6] at h
    rw [zi_sw_pos g6]
    exact zr_wk [some (.ref 0), some (.int x1)] ⟨rfl, rfl, trivial⟩ (tX11_count_J68 h)
  rw [if_neg g6] at h
  rw [zi_sw_neg g6]
  by_cases g7 : x1 = (3 : Int32)
  · rw [if_pos g7] at h
    rw [zi_sw_pos g7]
    refine zr_many 1 (pc' := 78) (L' := [some (.ref 0), some (.int x1)]) (st' := [.ref 0]) (S1 := zS c s) rfl ?_
    refine zq_get rfl (zh_0 _) rfl rfl rfl ?_
    refine zq_get rfl (zh_17 _) rfl rfl rfl ?_
    obtain rfl := Option.some.inj h
    exact zq_iret rfl
  rw [if_neg g7] at h
  rw [zi_sw_neg g7]
  by_cases g8 : x1 = (4 : Int32)
  · rw [if_pos g8] at h
    rw [zi_sw_pos g8]
    refine zr_many 1 (pc' := 86) (L' := [some (.ref 0), some (.int x1)]) (st' := [.ref 0]) (S1 := zS c s) rfl ?_
    refine zq_get rfl (zh_0 _) rfl rfl rfl ?_
    refine zq_get rfl (zh_17 _) rfl rfl rfl ?_
    obtain rfl := Option.some.inj h
    exact zq_iret rfl
  rw [if_neg g8] at h
  rw [zi_sw_neg g8]
  by_cases g9 : x1 = (5 : Int32)
  · rw [if_pos g9] at h
    rw [zi_sw_pos g9]
    refine zr_many 1 (pc' := 94) (L' := [some (.ref 0), some (.int x1)]) (st' := [.ref 0]) (S1 := zS c s) rfl ?_
    refine zq_get rfl (zh_0 _) rfl rfl rfl ?_
    refine zq_get rfl (zh_5 _) rfl rfl rfl ?_
    obtain rfl := Option.some.inj h
    exact zq_iret rfl
  rw [if_neg g9] at h
  rw [zi_sw_neg g9]
  by_cases g10 : x1 = (6 : Int32)
  · rw [if_pos g10] at h
    rw [zi_sw_pos g10]
    refine zr_many 1 (pc' := 102) (L' := [some (.ref 0), some (.int x1)]) (st' := [.ref 0]) (S1 := zS c s) rfl ?_
    refine zq_get rfl (zh_0 _) rfl rfl rfl ?_
    refine zq_get rfl (zh_17 _) rfl rfl rfl ?_
    obtain rfl := Option.some.inj h
    exact zq_iret rfl
  rw [if_neg g10] at h
  rw [zi_sw_neg g10]
  by_cases g11 : x1 = (7 : Int32)
  · rw [if_pos g11] at h
    rw [zi_sw_pos g11]
    refine zr_many 1 (pc' := 110) (L' := [some (.ref 0), some (.int x1)]) (st' := [.ref 0]) (S1 := zS c s) rfl ?_
    refine zq_get rfl (zh_0 _) rfl rfl rfl ?_
    refine zr_many 1 (pc' := 114) (L' := [some (.ref 0), some (.int x1)]) (st' := [.ref 0, .ref 5]) (S1 := zS c s) rfl ?_
    refine zq_get rfl (zh_0 _) rfl rfl rfl ?_
    refine zr_many 1 (pc' := 118) (L' := [some (.ref 0), some (.int x1)]) (st' := [.int (-1 : Int32), .ref 17, .ref 5]) (S1 := zS c s) rfl ?_
    obtain ⟨r12, g14, h⟩ := zp_inv h
    refine zq_call1 rfl rfl (zh_5 _) rfl rfl rfl (tX0_crewOf zM_17 g14) rfl ?_
    obtain rfl := Option.some.inj h
    exact zq_iret rfl
  rw [if_neg g11] at h
  rw [zi_sw_neg g11]
  by_cases g15 : x1 = (8 : Int32)
  · rw [if_pos g15] at h
    rw [zi_sw_pos g15]
    refine zr_many 1 (pc' := 123) (L' := [some (.ref 0), some (.int x1)]) (st' := [.ref 0]) (S1 := zS c s) rfl ?_
    refine zq_get rfl (zh_0 _) rfl rfl rfl ?_
    refine zr_many 1 (pc' := 127) (L' := [some (.ref 0), some (.int x1)]) (st' := [.ref 0, .ref 5]) (S1 := zS c s) rfl ?_
    refine zq_get rfl (zh_0 _) rfl rfl rfl ?_
    refine zr_many 2 (pc' := 132) (L' := [some (.ref 0), some (.int x1)]) (st' := [.ref 0, .int (1 : Int32), .ref 17, .ref 5]) (S1 := zS c s) rfl ?_
    refine zq_get rfl (zh_0 _) rfl rfl rfl ?_
    refine zq_get rfl (zh_5 _) rfl rfl rfl ?_
    refine zr_many 3 (pc' := 141) (L' := [some (.ref 0), some (.int x1)]) (st' := [.int (((1 : Int32) <<< ((s.1 5 8) &&& 31)) - (1 : Int32)), .ref 17, .ref 5]) (S1 := zS c s) rfl ?_
    obtain ⟨r16, g18, h⟩ := zp_inv h
    refine zq_call1 rfl rfl (zh_5 _) rfl rfl rfl (tX0_tiredOf zM_17 g18) rfl ?_
    obtain rfl := Option.some.inj h
    exact zq_iret rfl
  rw [if_neg g15] at h
  rw [zi_sw_neg g15]
  by_cases g19 : x1 = (9 : Int32)
  · rw [if_pos g19] at h
    rw [zi_sw_pos g19]
    refine zr_many 1 (pc' := 146) (L' := [some (.ref 0), some (.int x1)]) (st' := [.ref 0]) (S1 := zS c s) rfl ?_
    refine zq_get rfl (zh_0 _) rfl rfl rfl ?_
    obtain ⟨r20, g22, h⟩ := zp_inv h
    refine zq_call1 rfl rfl (zh_43 _) rfl rfl rfl (tX4_size g22) rfl ?_
    obtain rfl := Option.some.inj h
    exact zq_iret rfl
  rw [if_neg g19] at h
  rw [zi_sw_neg g19]
  by_cases g23 : x1 = (10 : Int32)
  · rw [if_pos g23] at h
    rw [zi_sw_pos g23]
    refine zr_many 1 (pc' := 154) (L' := [some (.ref 0), some (.int x1)]) (st' := [.ref 0]) (S1 := zS c s) rfl ?_
    refine zq_get rfl (zh_0 _) rfl rfl rfl ?_
    obtain ⟨r24, g26, h⟩ := zp_inv h
    refine zq_call1 rfl rfl (zh_49 _) rfl rfl rfl (tX6_size g26) rfl ?_
    obtain rfl := Option.some.inj h
    exact zq_iret rfl
  rw [if_neg g23] at h
  rw [zi_sw_neg g23]
  by_cases g27 : x1 = (11 : Int32)
  · rw [if_pos g27] at h
    rw [zi_sw_pos g27]
    refine zr_many 1 (pc' := 162) (L' := [some (.ref 0), some (.int x1)]) (st' := [.ref 0]) (S1 := zS c s) rfl ?_
    refine zq_get rfl (zh_0 _) rfl rfl rfl ?_
    obtain ⟨r28, g30, h⟩ := zp_inv h
    refine zq_call1 rfl rfl (zh_3 _) rfl rfl rfl (tX5_size g30) rfl ?_
    obtain rfl := Option.some.inj h
    exact zq_iret rfl
  rw [if_neg g27] at h
  rw [zi_sw_neg g27]
  by_cases g31 : x1 = (12 : Int32)
  · rw [if_pos g31] at h
    rw [zi_sw_pos g31]
    refine zr_many 1 (pc' := 170) (L' := [some (.ref 0), some (.int x1)]) (st' := [.ref 0]) (S1 := zS c s) rfl ?_
    refine zq_get rfl (zh_0 _) rfl rfl rfl ?_
    obtain ⟨r32, g34, h⟩ := zp_inv h
    refine zq_call1 rfl rfl (zh_1 _) rfl rfl rfl (tX8_length g34) rfl ?_
    obtain rfl := Option.some.inj h
    exact zq_iret rfl
  rw [if_neg g31] at h
  rw [zi_sw_neg g31]
  simp only [zi_sw]
  refine zr_many 1 (pc' := 179) (L' := [some (.ref 0), some (.int x1)]) (st' := [.int (-100 : Int32)]) (S1 := zS c s) rfl ?_
  obtain rfl := Option.some.inj h
  exact zq_iret rfl
def fX12_thrown (n : Nat) (s : zs) : Option Int32 := some (s.1 161 0)
theorem tX12_thrown {n : Nat} {c : Nat × Nat} {s : zs} {r : Int32} (h : fX12_thrown n s = some r) : zc 1 2401 [.ref 161] (zS c s) (some (.int r)) (zS c s) := by
  refine zc_of (k := kX12_thrown) (rt := 1) (L := [some (.ref 161)]) zm_2401.1 rfl rfl (by decide) rfl rfl ?_
  unfold fX12_thrown at h
  refine zr_many 1 (pc' := 1) (L' := [some (.ref 161)]) (st' := [.ref 161]) (S1 := zS c s) rfl ?_
  refine zq_get rfl (zh_161 _) rfl rfl rfl ?_
  obtain rfl := Option.some.inj h
  exact zq_iret rfl
def fX12_refuse (n : Nat) (s : zs) : Option (Int32 × zs) := some ((0 : Int32), (zsi s 161 0 (1 : Int32)))
theorem tX12_refuse {n : Nat} {c : Nat × Nat} {s : zs} {r : Int32} {s' : zs} (h : fX12_refuse n s = some (r, s')) : zc 1 2402 [.ref 161] (zS c s) (some (.int r)) (zS c s') := by
  refine zc_of (k := kX12_refuse) (rt := 1) (L := [some (.ref 161)]) zm_2402.1 rfl rfl (by decide) rfl rfl ?_
  unfold fX12_refuse at h
  refine zr_many 2 (pc' := 2) (L' := [some (.ref 161)]) (st' := [.int (1 : Int32), .ref 161]) (S1 := zS c s) rfl ?_
  refine zq_put (s' := (zsi s 161 0 (1 : Int32))) rfl (zh_161 _) rfl rfl rfl rfl zsi_ne rfl ?_
  refine zr_many 1 (pc' := 6) (L' := [some (.ref 161)]) (st' := [.int (0 : Int32)]) (S1 := zS c (zsi s 161 0 (1 : Int32))) rfl ?_
  obtain ⟨rfl, rfl⟩ := Prod.mk.inj (Option.some.inj h)
  exact zq_iret rfl
def fX12_in_J18 (n : Nat) (s : zs) (y0 : Int32) : Option Int32 := if y0 = 0 ∨ y0 = 1 then some y0 else none
theorem tX12_in_J18 {n : Nat} {c : Nat × Nat} {s : zs} {y0 : Int32} {r : Int32} (h : fX12_in_J18 n s y0 = some r) : zr kX12_in 2 0 18 [none, none, none, none, none, none] [.int y0] (zS c s) (some (.int r)) (zS c s) := by
  unfold fX12_in_J18 at h
  obtain ⟨gz, h⟩ := zt_inv h
  obtain rfl := Option.some.inj h
  exact zq_zret rfl gz
def fX12_in_J17 (n : Nat) (s : zs) : Option Int32 := fX12_in_J18 n s (0 : Int32)
theorem tX12_in_J17 {n : Nat} {c : Nat × Nat} {s : zs} {r : Int32} (h : fX12_in_J17 n s = some r) : zr kX12_in 2 0 17 [none, none, none, none, none, none] [] (zS c s) (some (.int r)) (zS c s) := by
  unfold fX12_in_J17 at h
  refine zr_many 1 (pc' := 18) (L' := [none, none, none, none, none, none]) (st' := [.int (0 : Int32)]) (S1 := zS c s) rfl ?_
  exact zr_wk [none, none, none, none, none, none] trivial (tX12_in_J18 h)
def fX12_in (n : Nat) (s : zs) (x0 : Int64) (x2 : Int64) (x4 : Int64) : Option Int32 := if (lg_cmp x0 x2) < 0 then fX12_in_J17 n s else if 0 < (lg_cmp x0 x4) then fX12_in_J17 n s else fX12_in_J18 n s (1 : Int32)
theorem tX12_in {n : Nat} {c : Nat × Nat} {s : zs} {x0 : Int64} {x2 : Int64} {x4 : Int64} {r : Int32} (h : fX12_in n s x0 x2 x4 = some r) : zc 1 2403 [.long x0, .long x2, .long x4] (zS c s) (some (.int r)) (zS c s) := by
  refine zc_of (k := kX12_in) (rt := 2) (L := [some (.long x0), none, some (.long x2), none, some (.long x4), none]) zm_2403.1 rfl rfl (by decide) rfl rfl ?_
  unfold fX12_in at h
  refine zr_many 3 (pc' := 3) (L' := [some (.long x0), none, some (.long x2), none, some (.long x4), none]) (st' := [.int (lg_cmp x0 x2)]) (S1 := zS c s) rfl ?_
  refine zq_if1 (b := (lg_cmp x0 x2) < 0) rfl Iff.rfl rfl (fun g1 => ?_) (fun g1 => ?_)
  · rw [if_pos g1] at h
    exact zr_wk [none, none, none, none, none, none] trivial (tX12_in_J17 h)
  · rw [if_neg g1] at h
    refine zr_many 3 (pc' := 10) (L' := [some (.long x0), none, some (.long x2), none, some (.long x4), none]) (st' := [.int (lg_cmp x0 x4)]) (S1 := zS c s) rfl ?_
    refine zq_if1 (b := 0 < (lg_cmp x0 x4)) rfl Iff.rfl rfl (fun g2 => ?_) (fun g2 => ?_)
    · rw [if_pos g2] at h
      exact zr_wk [none, none, none, none, none, none] trivial (tX12_in_J17 h)
    · rw [if_neg g2] at h
      refine zr_many 2 (pc' := 18) (L' := [some (.long x0), none, some (.long x2), none, some (.long x4), none]) (st' := [.int (1 : Int32)]) (S1 := zS c s) rfl ?_
      exact zr_wk [none, none, none, none, none, none] trivial (tX12_in_J18 h)
def fX12_has_J14 (n : Nat) (s : zs) (y0 : Int32) : Option Int32 := if y0 = 0 ∨ y0 = 1 then some y0 else none
theorem tX12_has_J14 {n : Nat} {c : Nat × Nat} {s : zs} {y0 : Int32} {r : Int32} (h : fX12_has_J14 n s y0 = some r) : zr kX12_has 2 0 14 [none, none] [.int y0] (zS c s) (some (.int r)) (zS c s) := by
  unfold fX12_has_J14 at h
  obtain ⟨gz, h⟩ := zt_inv h
  obtain rfl := Option.some.inj h
  exact zq_zret rfl gz
def fX12_has (n : Nat) (s : zs) (x0 : Int32) (x1 : Int32) : Option Int32 := if ¬ ((x0 >>> (x1 &&& 31)) &&& (1 : Int32)) = (1 : Int32) then fX12_has_J14 n s (0 : Int32) else fX12_has_J14 n s (1 : Int32)
theorem tX12_has {n : Nat} {c : Nat × Nat} {s : zs} {x0 : Int32} {x1 : Int32} {r : Int32} (h : fX12_has n s x0 x1 = some r) : zc 1 2404 [.int x0, .int x1] (zS c s) (some (.int r)) (zS c s) := by
  refine zc_of (k := kX12_has) (rt := 2) (L := [some (.int x0), some (.int x1)]) zm_2404.1 rfl rfl (by decide) rfl rfl ?_
  unfold fX12_has at h
  refine zr_many 6 (pc' := 6) (L' := [some (.int x0), some (.int x1)]) (st' := [.int (1 : Int32), .int ((x0 >>> (x1 &&& 31)) &&& (1 : Int32))]) (S1 := zS c s) rfl ?_
  refine zq_if2 (b := ¬ ((x0 >>> (x1 &&& 31)) &&& (1 : Int32)) = (1 : Int32)) rfl Iff.rfl rfl (fun g1 => ?_) (fun g1 => ?_)
  · rw [if_pos g1] at h
    refine zr_many 1 (pc' := 14) (L' := [some (.int x0), some (.int x1)]) (st' := [.int (0 : Int32)]) (S1 := zS c s) rfl ?_
    exact zr_wk [none, none] trivial (tX12_has_J14 h)
  · rw [if_neg g1] at h
    refine zr_many 2 (pc' := 14) (L' := [some (.int x0), some (.int x1)]) (st' := [.int (1 : Int32)]) (S1 := zS c s) rfl ?_
    exact zr_wk [none, none] trivial (tX12_has_J14 h)
def fX12_flag_J9 (n : Nat) (s : zs) (y0 : Int32) : Option Int32 := some y0
theorem tX12_flag_J9 {n : Nat} {c : Nat × Nat} {s : zs} {y0 : Int32} {r : Int32} (h : fX12_flag_J9 n s y0 = some r) : zr kX12_flag 1 0 9 [none] [.int y0] (zS c s) (some (.int r)) (zS c s) := by
  unfold fX12_flag_J9 at h
  obtain rfl := Option.some.inj h
  exact zq_iret rfl
def fX12_flag (n : Nat) (s : zs) (x0 : Int32) : Option Int32 := if x0 = 0 then fX12_flag_J9 n s (0 : Int32) else fX12_flag_J9 n s (1 : Int32)
theorem tX12_flag {n : Nat} {c : Nat × Nat} {s : zs} {x0 : Int32} {r : Int32} (h : fX12_flag n s x0 = some r) : zc 1 2405 [.int x0] (zS c s) (some (.int r)) (zS c s) := by
  refine zc_of (k := kX12_flag) (rt := 1) (L := [some (.int x0)]) zm_2405.1 rfl rfl (by decide) rfl rfl ?_
  unfold fX12_flag at h
  refine zr_many 1 (pc' := 1) (L' := [some (.int x0)]) (st' := [.int x0]) (S1 := zS c s) rfl ?_
  refine zq_if1 (b := x0 = 0) rfl Iff.rfl rfl (fun g1 => ?_) (fun g1 => ?_)
  · rw [if_pos g1] at h
    refine zr_many 1 (pc' := 9) (L' := [some (.int x0)]) (st' := [.int (0 : Int32)]) (S1 := zS c s) rfl ?_
    exact zr_wk [none] trivial (tX12_flag_J9 h)
  · rw [if_neg g1] at h
    refine zr_many 2 (pc' := 9) (L' := [some (.int x0)]) (st' := [.int (1 : Int32)]) (S1 := zS c s) rfl ?_
    exact zr_wk [none] trivial (tX12_flag_J9 h)
def fX12_common_J17 (n : Nat) (rc0 : zs → Int64 → Int64 → Option Int64) (s : zs) (y0 : Int64) : Option Int64 := some y0
theorem tX12_common_J17 {n : Nat} {rc0 : zs → Int64 → Int64 → Option Int64} {d : Nat} (hd : 0 ≤ d) (hrc0 : ∀ {c : Nat × Nat} {s : zs} {a0 : Int64} {a1 : Int64} {r : Int64}, rc0 s a0 a1 = some r → zc d 2406 [.long a0, .long a1] (zS c s) (some (.long r)) (zS c s)) {c : Nat × Nat} {s : zs} {y0 : Int64} {r : Int64} (h : fX12_common_J17 n rc0 s y0 = some r) : zr kX12_common 3 d 17 [none, none, none, none] [.long y0] (zS c s) (some (.long r)) (zS c s) := by
  unfold fX12_common_J17 at h
  obtain rfl := Option.some.inj h
  exact zq_lret rfl
def fX12_common_M (n : Nat) (rc0 : zs → Int64 → Int64 → Option Int64) (s : zs) (x0 : Int64) (x2 : Int64) : Option Int64 := if ¬ (lg_cmp x2 (0 : Int64)) = 0 then if x2 = 0 then none else (zp (rc0 s x2 (x0 - x0 / x2 * x2)) (fun r2 => fX12_common_J17 n rc0 s r2)) else fX12_common_J17 n rc0 s x0
theorem tX12_common_M {n : Nat} {rc0 : zs → Int64 → Int64 → Option Int64} {d : Nat} (hd : 0 ≤ d) (hrc0 : ∀ {c : Nat × Nat} {s : zs} {a0 : Int64} {a1 : Int64} {r : Int64}, rc0 s a0 a1 = some r → zc d 2406 [.long a0, .long a1] (zS c s) (some (.long r)) (zS c s)) {c : Nat × Nat} {s : zs} {x0 : Int64} {x2 : Int64} {r : Int64} (h : fX12_common_M n rc0 s x0 x2 = some r) : zc (d + 1) 2406 [.long x0, .long x2] (zS c s) (some (.long r)) (zS c s) := by
  refine zc_of (k := kX12_common) (rt := 3) (L := [some (.long x0), none, some (.long x2), none]) zm_2406.1 rfl rfl (by decide) rfl rfl ?_
  unfold fX12_common_M at h
  refine zr_many 3 (pc' := 3) (L' := [some (.long x0), none, some (.long x2), none]) (st' := [.int (lg_cmp x2 (0 : Int64))]) (S1 := zS c s) rfl ?_
  refine zq_if1 (b := ¬ (lg_cmp x2 (0 : Int64)) = 0) rfl Iff.rfl rfl (fun g1 => ?_) (fun g1 => ?_)
  · rw [if_pos g1] at h
    refine zr_many 3 (pc' := 13) (L' := [some (.long x0), none, some (.long x2), none]) (st' := [.long x2, .long x0, .long x2]) (S1 := zS c s) rfl ?_
    obtain ⟨g5, h⟩ := zn_inv h
    refine zq_lrem rfl g5 rfl ?_
    obtain ⟨r2, g4, h⟩ := zp_inv h
    refine zq_scall1 rfl (by decide) rfl rfl (hrc0 g4) rfl ?_
    exact zr_wk [none, none, none, none] trivial (tX12_common_J17 hd hrc0 h)
  · rw [if_neg g1] at h
    refine zr_many 2 (pc' := 17) (L' := [some (.long x0), none, some (.long x2), none]) (st' := [.long x0]) (S1 := zS c s) rfl ?_
    exact zr_wk [none, none, none, none] trivial (tX12_common_J17 hd hrc0 h)
def fX12_common (n : Nat) : Nat → zs → Int64 → Int64 → Option Int64
  | 0 => fun _ _ _ => none
  | u + 1 => fun s a0 a1 => fX12_common_M n (fX12_common n u) s a0 a1
theorem tX12_common_u {n : Nat} : ∀ (u : Nat) {c : Nat × Nat} {s : zs} {a0 : Int64} {a1 : Int64} {r : Int64}, fX12_common n u s a0 a1 = some r → zc (0 + 1 * u) 2406 [.long a0, .long a1] (zS c s) (some (.long r)) (zS c s) := by
  intro u
  induction u with
  | zero => intros; rename_i h; cases h
  | succ u ih =>
    intro _ _ _ _ _ h
    exact (tX12_common_M (d := 0 + 1 * u) (by omega) ih h).up (by omega)
theorem tX12_common {n : Nat} : ∀ {c : Nat × Nat} {s : zs} {a0 : Int64} {a1 : Int64} {r : Int64}, fX12_common n 200 s a0 a1 = some r → zc 200 2406 [.long a0, .long a1] (zS c s) (some (.long r)) (zS c s) := tX12_common_u 200
def fX12_enters (n : Nat) (s : zs) (x1 : Int64) : Option zs := cond (zi_in (s.1 161 1) 24) (zt (zsl s 162 (s.1 161 1).toNatClampNeg x1) (fun s1 => some (zsi s1 161 1 ((s1.1 161 1) + (1 : Int32))))) none
theorem tX12_enters {n : Nat} {c : Nat × Nat} {s : zs} {x1 : Int64} {s' : zs} (h : fX12_enters n s x1 = some s') : zc 1 2407 [.ref 161, .long x1] (zS c s) none (zS c s') := by
  refine zc_of (k := kX12_enters) (rt := 0) (L := [some (.ref 161), some (.long x1), none]) zm_2407.1 rfl rfl (by decide) rfl rfl ?_
  unfold fX12_enters at h
  refine zr_many 1 (pc' := 1) (L' := [some (.ref 161), some (.long x1), none]) (st' := [.ref 161]) (S1 := zS c s) rfl ?_
  refine zq_get rfl (zh_161 _) rfl rfl rfl ?_
  refine zr_many 1 (pc' := 5) (L' := [some (.ref 161), some (.long x1), none]) (st' := [.ref 161, .ref 162]) (S1 := zS c s) rfl ?_
  refine zq_get rfl (zh_161 _) rfl rfl rfl ?_
  refine zr_many 1 (pc' := 9) (L' := [some (.ref 161), some (.long x1), none]) (st' := [.long x1, .int (s.1 161 1), .ref 162]) (S1 := zS c s) rfl ?_
  obtain ⟨g3, h⟩ := zi_cond_inv h
  refine zq_lst rfl zh_162 rfl g3 rfl ?_
  refine zr_many 2 (pc' := 12) (L' := [some (.ref 161), some (.long x1), none]) (st' := [.ref 161, .ref 161]) (S1 := zS c (zsl s 162 (s.1 161 1).toNatClampNeg x1)) rfl ?_
  refine zq_get rfl (zh_161 _) rfl rfl rfl ?_
  refine zr_many 2 (pc' := 17) (L' := [some (.ref 161), some (.long x1), none]) (st' := [.int (((zsl s 162 (s.1 161 1).toNatClampNeg x1).1 161 1) + (1 : Int32)), .ref 161]) (S1 := zS c (zsl s 162 (s.1 161 1).toNatClampNeg x1)) rfl ?_
  obtain ⟨s1, e2, h⟩ := zt_in h
  rw [← e2]
  refine zq_put (s' := (zsi s1 161 1 ((s1.1 161 1) + (1 : Int32)))) rfl (zh_161 _) rfl rfl rfl rfl zsi_ne rfl ?_
  obtain rfl := Option.some.inj h
  exact zq_vret rfl
def fX12_isLock (n : Nat) (s : zs) (x1 : Int32) : Option Int32 := zp (fX12_in n s x1.toInt64 (0 : Int64) (((s.1 161 3) - (1 : Int32)).toInt64)) (fun r1 => if r1 = 0 ∨ r1 = 1 then some r1 else none)
theorem tX12_isLock {n : Nat} {c : Nat × Nat} {s : zs} {x1 : Int32} {r : Int32} (h : fX12_isLock n s x1 = some r) : zc 2 2408 [.ref 161, .int x1] (zS c s) (some (.int r)) (zS c s) := by
  refine zc_of (k := kX12_isLock) (rt := 2) (L := [some (.ref 161), some (.int x1)]) zm_2408.1 rfl rfl (by decide) rfl rfl ?_
  unfold fX12_isLock at h
  refine zr_many 4 (pc' := 4) (L' := [some (.ref 161), some (.int x1)]) (st' := [.ref 161, .long (0 : Int64), .long x1.toInt64]) (S1 := zS c s) rfl ?_
  refine zq_get rfl (zh_161 _) rfl rfl rfl ?_
  refine zr_many 3 (pc' := 10) (L' := [some (.ref 161), some (.int x1)]) (st' := [.long ((s.1 161 3) - (1 : Int32)).toInt64, .long (0 : Int64), .long x1.toInt64]) (S1 := zS c s) rfl ?_
  obtain ⟨r1, g3, h⟩ := zp_inv h
  refine zq_scall1 rfl (by decide) rfl rfl (tX12_in g3) rfl ?_
  obtain ⟨gz, h⟩ := zt_inv h
  obtain rfl := Option.some.inj h
  exact zq_zret rfl gz
def fX12_isSinger (n : Nat) (s : zs) (x1 : Int32) : Option Int32 := zp (fX12_in n s x1.toInt64 (0 : Int64) (((s.1 161 4) - (1 : Int32)).toInt64)) (fun r1 => if r1 = 0 ∨ r1 = 1 then some r1 else none)
theorem tX12_isSinger {n : Nat} {c : Nat × Nat} {s : zs} {x1 : Int32} {r : Int32} (h : fX12_isSinger n s x1 = some r) : zc 2 2409 [.ref 161, .int x1] (zS c s) (some (.int r)) (zS c s) := by
  refine zc_of (k := kX12_isSinger) (rt := 2) (L := [some (.ref 161), some (.int x1)]) zm_2409.1 rfl rfl (by decide) rfl rfl ?_
  unfold fX12_isSinger at h
  refine zr_many 4 (pc' := 4) (L' := [some (.ref 161), some (.int x1)]) (st' := [.ref 161, .long (0 : Int64), .long x1.toInt64]) (S1 := zS c s) rfl ?_
  refine zq_get rfl (zh_161 _) rfl rfl rfl ?_
  refine zr_many 3 (pc' := 10) (L' := [some (.ref 161), some (.int x1)]) (st' := [.long ((s.1 161 4) - (1 : Int32)).toInt64, .long (0 : Int64), .long x1.toInt64]) (S1 := zS c s) rfl ?_
  obtain ⟨r1, g3, h⟩ := zp_inv h
  refine zq_scall1 rfl (by decide) rfl rfl (tX12_in g3) rfl ?_
  obtain ⟨gz, h⟩ := zt_inv h
  obtain rfl := Option.some.inj h
  exact zq_zret rfl gz
def fX12_isBarge (n : Nat) (s : zs) (x1 : Int32) : Option Int32 := zp (fX12_in n s x1.toInt64 (0 : Int64) (((s.1 161 5) - (1 : Int32)).toInt64)) (fun r1 => if r1 = 0 ∨ r1 = 1 then some r1 else none)
theorem tX12_isBarge {n : Nat} {c : Nat × Nat} {s : zs} {x1 : Int32} {r : Int32} (h : fX12_isBarge n s x1 = some r) : zc 2 2410 [.ref 161, .int x1] (zS c s) (some (.int r)) (zS c s) := by
  refine zc_of (k := kX12_isBarge) (rt := 2) (L := [some (.ref 161), some (.int x1)]) zm_2410.1 rfl rfl (by decide) rfl rfl ?_
  unfold fX12_isBarge at h
  refine zr_many 4 (pc' := 4) (L' := [some (.ref 161), some (.int x1)]) (st' := [.ref 161, .long (0 : Int64), .long x1.toInt64]) (S1 := zS c s) rfl ?_
  refine zq_get rfl (zh_161 _) rfl rfl rfl ?_
  refine zr_many 3 (pc' := 10) (L' := [some (.ref 161), some (.int x1)]) (st' := [.long ((s.1 161 5) - (1 : Int32)).toInt64, .long (0 : Int64), .long x1.toInt64]) (S1 := zS c s) rfl ?_
  obtain ⟨r1, g3, h⟩ := zp_inv h
  refine zq_scall1 rfl (by decide) rfl rfl (tX12_in g3) rfl ?_
  obtain ⟨gz, h⟩ := zt_inv h
  obtain rfl := Option.some.inj h
  exact zq_zret rfl gz
def fX12_isPlace (n : Nat) (s : zs) (x1 : Int32) : Option Int32 := zp (fX12_in n s x1.toInt64 (0 : Int64) ((s.1 161 3).toInt64)) (fun r1 => if r1 = 0 ∨ r1 = 1 then some r1 else none)
theorem tX12_isPlace {n : Nat} {c : Nat × Nat} {s : zs} {x1 : Int32} {r : Int32} (h : fX12_isPlace n s x1 = some r) : zc 2 2411 [.ref 161, .int x1] (zS c s) (some (.int r)) (zS c s) := by
  refine zc_of (k := kX12_isPlace) (rt := 2) (L := [some (.ref 161), some (.int x1)]) zm_2411.1 rfl rfl (by decide) rfl rfl ?_
  unfold fX12_isPlace at h
  refine zr_many 4 (pc' := 4) (L' := [some (.ref 161), some (.int x1)]) (st' := [.ref 161, .long (0 : Int64), .long x1.toInt64]) (S1 := zS c s) rfl ?_
  refine zq_get rfl (zh_161 _) rfl rfl rfl ?_
  refine zr_many 1 (pc' := 8) (L' := [some (.ref 161), some (.int x1)]) (st' := [.long (s.1 161 3).toInt64, .long (0 : Int64), .long x1.toInt64]) (S1 := zS c s) rfl ?_
  obtain ⟨r1, g3, h⟩ := zp_inv h
  refine zq_scall1 rfl (by decide) rfl rfl (tX12_in g3) rfl ?_
  obtain ⟨gz, h⟩ := zt_inv h
  obtain rfl := Option.some.inj h
  exact zq_zret rfl gz
def fX12_placeOf (n : Nat) (s : zs) (m0 : Nat) (x1 : Int32) : Option Int32 := cond (zi_in (((34 : Int32) + ((2 : Int32) * x1)) + (0 : Int32)) 42) (some (s.1 m0 (((34 : Int32) + ((2 : Int32) * x1)) + (0 : Int32)).toNatClampNeg)) none
theorem tX12_placeOf {n : Nat} {c : Nat × Nat} {s : zs} {m0 : Nat} {x1 : Int32} {r : Int32} (hm0 : zR m0) (h : fX12_placeOf n s m0 x1 = some r) : zc 1 2412 [.ref m0, .int x1] (zS c s) (some (.int r)) (zS c s) := by
  refine zc_of (k := kX12_placeOf) (rt := 1) (L := [some (.ref m0), some (.int x1)]) zm_2412.1 rfl rfl (by decide) rfl rfl ?_
  unfold fX12_placeOf at h
  refine zr_many 8 (pc' := 9) (L' := [some (.ref m0), some (.int x1)]) (st' := [.int (((34 : Int32) + ((2 : Int32) * x1)) + (0 : Int32)), .ref m0]) (S1 := zS c s) rfl ?_
  obtain ⟨g1, h⟩ := zi_cond_inv h
  refine zq_ild rfl (zhR hm0 _) (zR_lt hm0) g1 rfl ?_
  obtain rfl := Option.some.inj h
  exact zq_iret rfl
def fX12_crewOf (n : Nat) (s : zs) (m0 : Nat) (x1 : Int32) : Option Int32 := cond (zi_in (((10 : Int32) + ((3 : Int32) * x1)) + (1 : Int32)) 42) (some (s.1 m0 (((10 : Int32) + ((3 : Int32) * x1)) + (1 : Int32)).toNatClampNeg)) none
theorem tX12_crewOf {n : Nat} {c : Nat × Nat} {s : zs} {m0 : Nat} {x1 : Int32} {r : Int32} (hm0 : zR m0) (h : fX12_crewOf n s m0 x1 = some r) : zc 1 2413 [.ref m0, .int x1] (zS c s) (some (.int r)) (zS c s) := by
  refine zc_of (k := kX12_crewOf) (rt := 1) (L := [some (.ref m0), some (.int x1)]) zm_2413.1 rfl rfl (by decide) rfl rfl ?_
  unfold fX12_crewOf at h
  refine zr_many 8 (pc' := 9) (L' := [some (.ref m0), some (.int x1)]) (st' := [.int (((10 : Int32) + ((3 : Int32) * x1)) + (1 : Int32)), .ref m0]) (S1 := zS c s) rfl ?_
  obtain ⟨g1, h⟩ := zi_cond_inv h
  refine zq_ild rfl (zhR hm0 _) (zR_lt hm0) g1 rfl ?_
  obtain rfl := Option.some.inj h
  exact zq_iret rfl
def fX12_tiredOf (n : Nat) (s : zs) (m0 : Nat) (x1 : Int32) : Option Int32 := cond (zi_in (((10 : Int32) + ((3 : Int32) * x1)) + (2 : Int32)) 42) (some (s.1 m0 (((10 : Int32) + ((3 : Int32) * x1)) + (2 : Int32)).toNatClampNeg)) none
theorem tX12_tiredOf {n : Nat} {c : Nat × Nat} {s : zs} {m0 : Nat} {x1 : Int32} {r : Int32} (hm0 : zR m0) (h : fX12_tiredOf n s m0 x1 = some r) : zc 1 2414 [.ref m0, .int x1] (zS c s) (some (.int r)) (zS c s) := by
  refine zc_of (k := kX12_tiredOf) (rt := 1) (L := [some (.ref m0), some (.int x1)]) zm_2414.1 rfl rfl (by decide) rfl rfl ?_
  unfold fX12_tiredOf at h
  refine zr_many 8 (pc' := 9) (L' := [some (.ref m0), some (.int x1)]) (st' := [.int (((10 : Int32) + ((3 : Int32) * x1)) + (2 : Int32)), .ref m0]) (S1 := zS c s) rfl ?_
  obtain ⟨g1, h⟩ := zi_cond_inv h
  refine zq_ild rfl (zhR hm0 _) (zR_lt hm0) g1 rfl ?_
  obtain rfl := Option.some.inj h
  exact zq_iret rfl
def fX12_crew_J33 (n : Nat) (s : zs) (m1 : Nat) (x2 : Int32) (x4 : Int32) (y0 : Int32) (y1 : Int32) : Option ((Int32 × Int32) ⊕ (Int32)) := some (Sum.inl ((y0 ||| y1), (x4 + (1 : Int32))))
theorem tX12_crew_J33 {n : Nat} {c : Nat × Nat} {s : zs} {m1 : Nat} {x2 : Int32} {x4 : Int32} {y0 : Int32} {y1 : Int32} {o : _} {v : Option Value} {S' : zi_S} (hm1 : zR m1) (h : fX12_crew_J33 n s m1 x2 x4 y0 y1 = some o) (hn : ∀ w5, o = Sum.inl w5 → zr kX12_crew 1 1 5 [some (.ref 161), some (.ref m1), some (.int x2), some (.int w5.1), some (.int w5.2)] [] (zS c s) v S') (hx : ∀ z, o = Sum.inr z → (fun z => zr kX12_crew 1 1 41 [none, none, none, some (.int z), none] [] (zS c s) v S') z) : zr kX12_crew 1 1 33 [some (.ref 161), some (.ref m1), some (.int x2), none, some (.int x4)] [.int y1, .int y0] (zS c s) v S' := by
  unfold fX12_crew_J33 at h
  refine zr_many 4 (pc' := 5) (L' := [some (.ref 161), some (.ref m1), some (.int x2), some (.int (y0 ||| y1)), some (.int (x4 + (1 : Int32)))]) (st' := []) (S1 := zS c s) rfl ?_
  obtain rfl := Option.some.inj h
  exact zr_wk [some (.ref 161), some (.ref m1), some (.int x2), some (.int (y0 ||| y1)), some (.int (x4 + (1 : Int32)))] ⟨rfl, rfl, rfl, rfl, rfl, trivial⟩ (hn ((y0 ||| y1), (x4 + (1 : Int32))) rfl)
def fX12_crew_B5 (n : Nat) (s : zs) (m1 : Nat) (x2 : Int32) (w5 : Int32 × Int32) : Option ((Int32 × Int32) ⊕ (Int32)) := if (s.1 161 4) ≤ w5.2 then some (Sum.inr w5.1) else zp (fX12_crewOf n s m1 w5.2) (fun r2 => if ¬ r2 = x2 then fX12_crew_J33 n s m1 x2 w5.2 w5.1 (0 : Int32) else fX12_crew_J33 n s m1 x2 w5.2 w5.1 ((1 : Int32) <<< (w5.2 &&& 31)))
theorem tX12_crew_B5 {n : Nat} {c : Nat × Nat} {s : zs} {m1 : Nat} {x2 : Int32} {w5 : Int32 × Int32} {o : _} {v : Option Value} {S' : zi_S} (hm1 : zR m1) (h : fX12_crew_B5 n s m1 x2 w5 = some o) (hn : ∀ w5, o = Sum.inl w5 → zr kX12_crew 1 1 5 [some (.ref 161), some (.ref m1), some (.int x2), some (.int w5.1), some (.int w5.2)] [] (zS c s) v S') (hx : ∀ z, o = Sum.inr z → (fun z => zr kX12_crew 1 1 41 [none, none, none, some (.int z), none] [] (zS c s) v S') z) : zr kX12_crew 1 1 5 [some (.ref 161), some (.ref m1), some (.int x2), some (.int w5.1), some (.int w5.2)] [] (zS c s) v S' := by
  unfold fX12_crew_B5 at h
  refine zr_many 2 (pc' := 8) (L' := [some (.ref 161), some (.ref m1), some (.int x2), some (.int w5.1), some (.int w5.2)]) (st' := [.ref 161, .int w5.2]) (S1 := zS c s) rfl ?_
  refine zq_get rfl (zh_161 _) rfl rfl rfl ?_
  refine zq_if2 (b := (s.1 161 4) ≤ w5.2) rfl Iff.rfl rfl (fun g1 => ?_) (fun g1 => ?_)
  · rw [if_pos g1] at h
    obtain rfl := Option.some.inj h
    exact zr_wk [none, none, none, some (.int w5.1), none] ⟨rfl, trivial⟩ (hx w5.1 rfl)
  · rw [if_neg g1] at h
    refine zr_many 3 (pc' := 18) (L' := [some (.ref 161), some (.ref m1), some (.int x2), some (.int w5.1), some (.int w5.2)]) (st' := [.int w5.2, .ref m1, .int w5.1]) (S1 := zS c s) rfl ?_
    obtain ⟨r2, g4, h⟩ := zp_inv h
    refine zq_scall1 rfl (by decide) rfl rfl (tX12_crewOf hm1 g4) rfl ?_
    refine zr_many 1 (pc' := 22) (L' := [some (.ref 161), some (.ref m1), some (.int x2), some (.int w5.1), some (.int w5.2)]) (st' := [.int x2, .int r2, .int w5.1]) (S1 := zS c s) rfl ?_
    refine zq_if2 (b := ¬ r2 = x2) rfl Iff.rfl rfl (fun g5 => ?_) (fun g5 => ?_)
    · rw [if_pos g5] at h
      refine zr_many 1 (pc' := 33) (L' := [some (.ref 161), some (.ref m1), some (.int x2), some (.int w5.1), some (.int w5.2)]) (st' := [.int (0 : Int32), .int w5.1]) (S1 := zS c s) rfl ?_
      exact zr_wk [some (.ref 161), some (.ref m1), some (.int x2), none, some (.int w5.2)] ⟨rfl, rfl, rfl, rfl, trivial⟩ (tX12_crew_J33 hm1 h hn hx)
    · rw [if_neg g5] at h
      refine zr_many 4 (pc' := 33) (L' := [some (.ref 161), some (.ref m1), some (.int x2), some (.int w5.1), some (.int w5.2)]) (st' := [.int ((1 : Int32) <<< (w5.2 &&& 31)), .int w5.1]) (S1 := zS c s) rfl ?_
      exact zr_wk [some (.ref 161), some (.ref m1), some (.int x2), none, some (.int w5.2)] ⟨rfl, rfl, rfl, rfl, trivial⟩ (tX12_crew_J33 hm1 h hn hx)
def fX12_crew (n : Nat) (s : zs) (m1 : Nat) (x2 : Int32) : Option Int32 := zp (zl (fX12_crew_B5 n s m1 x2) n ((0 : Int32), (0 : Int32))) (fun w6 => some w6)
theorem tX12_crew {n : Nat} {c : Nat × Nat} {s : zs} {m1 : Nat} {x2 : Int32} {r : Int32} (hm1 : zR m1) (h : fX12_crew n s m1 x2 = some r) : zc 2 2415 [.ref 161, .ref m1, .int x2] (zS c s) (some (.int r)) (zS c s) := by
  refine zc_of (k := kX12_crew) (rt := 1) (L := [some (.ref 161), some (.ref m1), some (.int x2), none, none]) zm_2415.1 rfl rfl (by decide) rfl rfl ?_
  unfold fX12_crew at h
  refine zr_many 4 (pc' := 5) (L' := [some (.ref 161), some (.ref m1), some (.int x2), some (.int (0 : Int32)), some (.int (0 : Int32))]) (st' := []) (S1 := zS c s) rfl ?_
  obtain ⟨w6, g7, h⟩ := zp_inv h
  refine zr_wk [some (.ref 161), some (.ref m1), some (.int x2), some (.int (0 : Int32)), some (.int (0 : Int32))] ⟨rfl, rfl, rfl, rfl, rfl, trivial⟩ (zl_cert (Z := fun w5 => zr kX12_crew 1 1 5 [some (.ref 161), some (.ref m1), some (.int x2), some (.int w5.1), some (.int w5.2)] [] (zS c s) _ _) (Y := (fun z => zr kX12_crew 1 1 41 [none, none, none, some (.int z), none] [] (zS c s) _ _)) (fun w o h1 h2 h3 => tX12_crew_B5 hm1 h1 h2 h3) n _ _ g7 ?_)
  show zr kX12_crew 1 1 41 [none, none, none, some (.int w6), none] [] (zS c s) _ _
  refine zr_many 1 (pc' := 42) (L' := [none, none, none, some (.int w6), none]) (st' := [.int w6]) (S1 := zS c s) rfl ?_
  obtain rfl := Option.some.inj h
  exact zq_iret rfl
def fX12_whereIs_J37 (n : Nat) (s : zs) (y0 : Int32) : Option Int32 := some y0
theorem tX12_whereIs_J37 {n : Nat} {c : Nat × Nat} {s : zs} {y0 : Int32} {r : Int32} (h : fX12_whereIs_J37 n s y0 = some r) : zr kX12_whereIs 1 1 37 [none, none, none] [.int y0] (zS c s) (some (.int r)) (zS c s) := by
  unfold fX12_whereIs_J37 at h
  obtain rfl := Option.some.inj h
  exact zq_iret rfl
def fX12_whereIs (n : Nat) (s : zs) (x1 : Int32) : Option Int32 := zp (fX12_crewOf n s 169 x1) (fun r1 => if 0 ≤ r1 then zp (fX12_placeOf n s 169 r1) (fun r5 => fX12_whereIs_J37 n s r5) else cond (zi_in (((10 : Int32) + ((3 : Int32) * x1)) + (0 : Int32)) 42) (fX12_whereIs_J37 n s (s.1 169 (((10 : Int32) + ((3 : Int32) * x1)) + (0 : Int32)).toNatClampNeg)) none)
theorem tX12_whereIs {n : Nat} {c : Nat × Nat} {s : zs} {x1 : Int32} {r : Int32} (h : fX12_whereIs n s x1 = some r) : zc 2 2416 [.ref 161, .int x1] (zS c s) (some (.int r)) (zS c s) := by
  refine zc_of (k := kX12_whereIs) (rt := 1) (L := [some (.ref 161), some (.int x1), none]) zm_2416.1 rfl rfl (by decide) rfl rfl ?_
  unfold fX12_whereIs at h
  refine zr_many 1 (pc' := 1) (L' := [some (.ref 161), some (.int x1), none]) (st' := [.ref 161]) (S1 := zS c s) rfl ?_
  refine zq_get rfl (zh_161 _) rfl rfl rfl ?_
  refine zr_many 1 (pc' := 5) (L' := [some (.ref 161), some (.int x1), none]) (st' := [.int x1, .ref 169]) (S1 := zS c s) rfl ?_
  obtain ⟨r1, g3, h⟩ := zp_inv h
  refine zq_scall1 rfl (by decide) rfl rfl (tX12_crewOf zR_n g3) rfl ?_
  refine zr_many 2 (pc' := 10) (L' := [some (.ref 161), some (.int x1), some (.int r1)]) (st' := [.int r1]) (S1 := zS c s) rfl ?_
  refine zq_if1 (b := 0 ≤ r1) rfl Iff.rfl rfl (fun g4 => ?_) (fun g4 => ?_)
  · rw [if_pos g4] at h
    refine zr_many 1 (pc' := 30) (L' := [some (.ref 161), some (.int x1), some (.int r1)]) (st' := [.ref 161]) (S1 := zS c s) rfl ?_
    refine zq_get rfl (zh_161 _) rfl rfl rfl ?_
    refine zr_many 1 (pc' := 34) (L' := [some (.ref 161), some (.int x1), some (.int r1)]) (st' := [.int r1, .ref 169]) (S1 := zS c s) rfl ?_
    obtain ⟨r5, g7, h⟩ := zp_inv h
    refine zq_scall1 rfl (by decide) rfl rfl (tX12_placeOf zR_n g7) rfl ?_
    exact zr_wk [none, none, none] trivial (tX12_whereIs_J37 h)
  · rw [if_neg g4] at h
    refine zr_many 1 (pc' := 14) (L' := [some (.ref 161), some (.int x1), some (.int r1)]) (st' := [.ref 161]) (S1 := zS c s) rfl ?_
    refine zq_get rfl (zh_161 _) rfl rfl rfl ?_
    refine zr_many 7 (pc' := 25) (L' := [some (.ref 161), some (.int x1), some (.int r1)]) (st' := [.int (((10 : Int32) + ((3 : Int32) * x1)) + (0 : Int32)), .ref 169]) (S1 := zS c s) rfl ?_
    obtain ⟨g8, h⟩ := zi_cond_inv h
    refine zq_ild rfl (zh_169 _) rfl g8 rfl ?_
    refine zr_many 1 (pc' := 37) (L' := [some (.ref 161), some (.int x1), some (.int r1)]) (st' := [.int (s.1 169 (((10 : Int32) + ((3 : Int32) * x1)) + (0 : Int32)).toNatClampNeg)]) (S1 := zS c s) rfl ?_
    exact zr_wk [none, none, none] trivial (tX12_whereIs_J37 h)
def fX12_sign_B18 (n : Nat) (x1 : Int32) (w18 : Int32 × zs) : Option ((Int32 × zs) ⊕ (zs)) := if (4 : Int32) ≤ w18.1 then some (Sum.inr w18.2) else cond (zi_in ((w18.2.1 161 17) + w18.1) 80) (some (Sum.inl ((w18.1 + (1 : Int32)), (zsi w18.2 171 ((w18.2.1 161 17) + w18.1).toNatClampNeg ((x1 >>> (((24 : Int32) - ((8 : Int32) * w18.1)) &&& 31)) &&& (255 : Int32)))))) none
theorem tX12_sign_B18 {n : Nat} {c : Nat × Nat} {x1 : Int32} {w18 : Int32 × zs} {o : _} {v : Option Value} {S' : zi_S} (h : fX12_sign_B18 n x1 w18 = some o) (hn : ∀ w18, o = Sum.inl w18 → zr kX12_sign 1 0 18 [some (.ref 161), some (.int x1), some (.int w18.1)] [] (zS c w18.2) v S') (hx : ∀ z, o = Sum.inr z → (fun z => zr kX12_sign 1 0 53 [some (.ref 161), none, none] [] (zS c z) v S') z) : zr kX12_sign 1 0 18 [some (.ref 161), some (.int x1), some (.int w18.1)] [] (zS c w18.2) v S' := by
  unfold fX12_sign_B18 at h
  refine zr_many 2 (pc' := 20) (L' := [some (.ref 161), some (.int x1), some (.int w18.1)]) (st' := [.int (4 : Int32), .int w18.1]) (S1 := zS c w18.2) rfl ?_
  refine zq_if2 (b := (4 : Int32) ≤ w18.1) rfl Iff.rfl rfl (fun g2 => ?_) (fun g2 => ?_)
  · rw [if_pos g2] at h
    obtain rfl := Option.some.inj h
    exact zr_wk [some (.ref 161), none, none] ⟨rfl, trivial⟩ (hx w18.2 rfl)
  · rw [if_neg g2] at h
    refine zr_many 1 (pc' := 24) (L' := [some (.ref 161), some (.int x1), some (.int w18.1)]) (st' := [.ref 161]) (S1 := zS c w18.2) rfl ?_
    refine zq_get rfl (zh_161 _) rfl rfl rfl ?_
    refine zr_many 1 (pc' := 28) (L' := [some (.ref 161), some (.int x1), some (.int w18.1)]) (st' := [.ref 161, .ref 171]) (S1 := zS c w18.2) rfl ?_
    refine zq_get rfl (zh_161 _) rfl rfl rfl ?_
    refine zr_many 11 (pc' := 46) (L' := [some (.ref 161), some (.int x1), some (.int w18.1)]) (st' := [.int ((x1 >>> (((24 : Int32) - ((8 : Int32) * w18.1)) &&& 31)) &&& (255 : Int32)), .int ((w18.2.1 161 17) + w18.1), .ref 171]) (S1 := zS c w18.2) rfl ?_
    obtain ⟨g3, h⟩ := zi_cond_inv h
    refine zq_ist rfl zh_171 rfl g3 rfl ?_
    refine zr_many 2 (pc' := 18) (L' := [some (.ref 161), some (.int x1), some (.int (w18.1 + (1 : Int32)))]) (st' := []) (S1 := zS c (zsi w18.2 171 ((w18.2.1 161 17) + w18.1).toNatClampNeg ((x1 >>> (((24 : Int32) - ((8 : Int32) * w18.1)) &&& 31)) &&& (255 : Int32)))) rfl ?_
    obtain rfl := Option.some.inj h
    exact zr_wk [some (.ref 161), some (.int x1), some (.int (w18.1 + (1 : Int32)))] ⟨rfl, rfl, rfl, trivial⟩ (hn ((w18.1 + (1 : Int32)), (zsi w18.2 171 ((w18.2.1 161 17) + w18.1).toNatClampNeg ((x1 >>> (((24 : Int32) - ((8 : Int32) * w18.1)) &&& 31)) &&& (255 : Int32)))) rfl)
def fX12_sign (n : Nat) (s : zs) (x1 : Int32) : Option (Int32 × zs) := if ((zsi s 161 0 (0 : Int32)).1 161 17) ≤ (76 : Int32) then zp (zl (fX12_sign_B18 n x1) n ((0 : Int32), (zsi s 161 0 (0 : Int32)))) (fun w4 => some (((zsi w4 161 17 ((w4.1 161 17) + (4 : Int32))).1 161 17), (zsi w4 161 17 ((w4.1 161 17) + (4 : Int32))))) else some ((-1 : Int32), (zsi s 161 0 (0 : Int32)))
theorem tX12_sign {n : Nat} {c : Nat × Nat} {s : zs} {x1 : Int32} {r : Int32} {s' : zs} (h : fX12_sign n s x1 = some (r, s')) : zc 1 2417 [.ref 161, .int x1] (zS c s) (some (.int r)) (zS c s') := by
  refine zc_of (k := kX12_sign) (rt := 1) (L := [some (.ref 161), some (.int x1), none]) zm_2417.1 rfl rfl (by decide) rfl rfl ?_
  unfold fX12_sign at h
  refine zr_many 2 (pc' := 2) (L' := [some (.ref 161), some (.int x1), none]) (st' := [.int (0 : Int32), .ref 161]) (S1 := zS c s) rfl ?_
  refine zq_put (s' := (zsi s 161 0 (0 : Int32))) rfl (zh_161 _) rfl rfl rfl rfl zsi_ne rfl ?_
  refine zr_many 1 (pc' := 6) (L' := [some (.ref 161), some (.int x1), none]) (st' := [.ref 161]) (S1 := zS c (zsi s 161 0 (0 : Int32))) rfl ?_
  refine zq_get rfl (zh_161 _) rfl rfl rfl ?_
  refine zr_many 1 (pc' := 11) (L' := [some (.ref 161), some (.int x1), none]) (st' := [.int (76 : Int32), .int ((zsi s 161 0 (0 : Int32)).1 161 17)]) (S1 := zS c (zsi s 161 0 (0 : Int32))) rfl ?_
  refine zq_if2 (b := ((zsi s 161 0 (0 : Int32)).1 161 17) ≤ (76 : Int32)) rfl Iff.rfl rfl (fun g1 => ?_) (fun g1 => ?_)
  · rw [if_pos g1] at h
    refine zr_many 2 (pc' := 18) (L' := [some (.ref 161), some (.int x1), some (.int (0 : Int32))]) (st' := []) (S1 := zS c (zsi s 161 0 (0 : Int32))) rfl ?_
    obtain ⟨w4, g5, h⟩ := zp_inv h
    refine zr_wk [some (.ref 161), some (.int x1), some (.int (0 : Int32))] ⟨rfl, rfl, rfl, trivial⟩ (zl_cert (Z := fun w18 => zr kX12_sign 1 0 18 [some (.ref 161), some (.int x1), some (.int w18.1)] [] (zS c w18.2) _ _) (Y := (fun z => zr kX12_sign 1 0 53 [some (.ref 161), none, none] [] (zS c z) _ _)) (fun w o h1 h2 h3 => tX12_sign_B18 h1 h2 h3) n _ _ g5 ?_)
    show zr kX12_sign 1 0 53 [some (.ref 161), none, none] [] (zS c w4) _ _
    refine zr_many 2 (pc' := 55) (L' := [some (.ref 161), none, none]) (st' := [.ref 161, .ref 161]) (S1 := zS c w4) rfl ?_
    refine zq_get rfl (zh_161 _) rfl rfl rfl ?_
    refine zr_many 2 (pc' := 60) (L' := [some (.ref 161), none, none]) (st' := [.int ((w4.1 161 17) + (4 : Int32)), .ref 161]) (S1 := zS c w4) rfl ?_
    refine zq_put (s' := (zsi w4 161 17 ((w4.1 161 17) + (4 : Int32)))) rfl (zh_161 _) rfl rfl rfl rfl zsi_ne rfl ?_
    refine zr_many 1 (pc' := 64) (L' := [some (.ref 161), none, none]) (st' := [.ref 161]) (S1 := zS c (zsi w4 161 17 ((w4.1 161 17) + (4 : Int32)))) rfl ?_
    refine zq_get rfl (zh_161 _) rfl rfl rfl ?_
    obtain ⟨rfl, rfl⟩ := Prod.mk.inj (Option.some.inj h)
    exact zq_iret rfl
  · rw [if_neg g1] at h
    refine zr_many 1 (pc' := 15) (L' := [some (.ref 161), some (.int x1), none]) (st' := [.int (-1 : Int32)]) (S1 := zS c (zsi s 161 0 (0 : Int32))) rfl ?_
    obtain ⟨rfl, rfl⟩ := Prod.mk.inj (Option.some.inj h)
    exact zq_iret rfl
def fX12_end (n : Nat) (s : zs) (x1 : Int32) : Option (Int32 × zs) := zp (fX12_in n (zsi s 161 0 (0 : Int32)) x1.toInt64 (0 : Int64) (((zsi s 161 0 (0 : Int32)).1 161 17).toInt64)) (fun r1 => if ¬ r1 = 0 then zt (zsi s 161 0 (0 : Int32)) (fun s5 => some ((1 : Int32), (zsi s5 161 17 x1))) else some ((0 : Int32), (zsi s 161 0 (0 : Int32))))
theorem tX12_end {n : Nat} {c : Nat × Nat} {s : zs} {x1 : Int32} {r : Int32} {s' : zs} (h : fX12_end n s x1 = some (r, s')) : zc 2 2418 [.ref 161, .int x1] (zS c s) (some (.int r)) (zS c s') := by
  refine zc_of (k := kX12_end) (rt := 2) (L := [some (.ref 161), some (.int x1)]) zm_2418.1 rfl rfl (by decide) rfl rfl ?_
  unfold fX12_end at h
  refine zr_many 2 (pc' := 2) (L' := [some (.ref 161), some (.int x1)]) (st' := [.int (0 : Int32), .ref 161]) (S1 := zS c s) rfl ?_
  refine zq_put (s' := (zsi s 161 0 (0 : Int32))) rfl (zh_161 _) rfl rfl rfl rfl zsi_ne rfl ?_
  refine zr_many 4 (pc' := 9) (L' := [some (.ref 161), some (.int x1)]) (st' := [.ref 161, .long (0 : Int64), .long x1.toInt64]) (S1 := zS c (zsi s 161 0 (0 : Int32))) rfl ?_
  refine zq_get rfl (zh_161 _) rfl rfl rfl ?_
  refine zr_many 1 (pc' := 13) (L' := [some (.ref 161), some (.int x1)]) (st' := [.long ((zsi s 161 0 (0 : Int32)).1 161 17).toInt64, .long (0 : Int64), .long x1.toInt64]) (S1 := zS c (zsi s 161 0 (0 : Int32))) rfl ?_
  obtain ⟨r1, g3, h⟩ := zp_inv h
  refine zq_scall1 rfl (by decide) rfl rfl (tX12_in g3) rfl ?_
  refine zq_if1 (b := ¬ r1 = 0) rfl Iff.rfl rfl (fun g4 => ?_) (fun g4 => ?_)
  · rw [if_pos g4] at h
    refine zr_many 2 (pc' := 23) (L' := [some (.ref 161), some (.int x1)]) (st' := [.int x1, .ref 161]) (S1 := zS c (zsi s 161 0 (0 : Int32))) rfl ?_
    obtain ⟨s5, e6, h⟩ := zt_in h
    rw [← e6]
    refine zq_put (s' := (zsi s5 161 17 x1)) rfl (zh_161 _) rfl rfl rfl rfl zsi_ne rfl ?_
    refine zr_many 1 (pc' := 27) (L' := [some (.ref 161), some (.int x1)]) (st' := [.int (1 : Int32)]) (S1 := zS c (zsi s5 161 17 x1)) rfl ?_
    obtain ⟨rfl, rfl⟩ := Prod.mk.inj (Option.some.inj h)
    exact zq_zret rfl (by decide)
  · rw [if_neg g4] at h
    refine zr_many 1 (pc' := 20) (L' := [some (.ref 161), some (.int x1)]) (st' := [.int (0 : Int32)]) (S1 := zS c (zsi s 161 0 (0 : Int32))) rfl ?_
    obtain ⟨rfl, rfl⟩ := Prod.mk.inj (Option.some.inj h)
    exact zq_zret rfl (by decide)
def fX12_begins (n : Nat) (s : zs) (x1 : Int32) : Option (Int32 × zs) := zt (zsi s 161 17 (0 : Int32)) (fun s1 => zt (zsi s1 161 18 (0 : Int32)) (fun s3 => zt (zsi s3 161 20 (0 : Int32)) (fun s5 => some ((s.1 161 17), (zsi s5 161 19 (if x1 < (s.1 161 17) then x1 else (s.1 161 17)))))))
theorem tX12_begins {n : Nat} {c : Nat × Nat} {s : zs} {x1 : Int32} {r : Int32} {s' : zs} (h : fX12_begins n s x1 = some (r, s')) : zc 1 2419 [.ref 161, .int x1] (zS c s) (some (.int r)) (zS c s') := by
  refine zc_of (k := kX12_begins) (rt := 1) (L := [some (.ref 161), some (.int x1), none]) zm_2419.1 rfl rfl (by decide) rfl rfl ?_
  unfold fX12_begins at h
  refine zr_many 1 (pc' := 1) (L' := [some (.ref 161), some (.int x1), none]) (st' := [.ref 161]) (S1 := zS c s) rfl ?_
  refine zq_get rfl (zh_161 _) rfl rfl rfl ?_
  refine zr_many 3 (pc' := 7) (L' := [some (.ref 161), some (.int x1), some (.int (s.1 161 17))]) (st' := [.int (0 : Int32), .ref 161]) (S1 := zS c s) rfl ?_
  refine zq_put (s' := (zsi s 161 17 (0 : Int32))) rfl (zh_161 _) rfl rfl rfl rfl zsi_ne rfl ?_
  refine zr_many 2 (pc' := 12) (L' := [some (.ref 161), some (.int x1), some (.int (s.1 161 17))]) (st' := [.int (0 : Int32), .ref 161]) (S1 := zS c (zsi s 161 17 (0 : Int32))) rfl ?_
  obtain ⟨s1, e2, h⟩ := zt_in h
  rw [← e2]
  refine zq_put (s' := (zsi s1 161 18 (0 : Int32))) rfl (zh_161 _) rfl rfl rfl rfl zsi_ne rfl ?_
  refine zr_many 2 (pc' := 17) (L' := [some (.ref 161), some (.int x1), some (.int (s.1 161 17))]) (st' := [.int (0 : Int32), .ref 161]) (S1 := zS c (zsi s1 161 18 (0 : Int32))) rfl ?_
  obtain ⟨s3, e4, h⟩ := zt_in h
  rw [← e4]
  refine zq_put (s' := (zsi s3 161 20 (0 : Int32))) rfl (zh_161 _) rfl rfl rfl rfl zsi_ne rfl ?_
  refine zr_many 4 (pc' := 26) (L' := [some (.ref 161), some (.int x1), some (.int (s.1 161 17))]) (st' := [.int (if x1 < (s.1 161 17) then x1 else (s.1 161 17)), .ref 161]) (S1 := zS c (zsi s3 161 20 (0 : Int32))) rfl ?_
  obtain ⟨s5, e6, h⟩ := zt_in h
  rw [← e6]
  refine zq_put (s' := (zsi s5 161 19 (if x1 < (s.1 161 17) then x1 else (s.1 161 17)))) rfl (zh_161 _) rfl rfl rfl rfl zsi_ne rfl ?_
  refine zr_many 1 (pc' := 30) (L' := [some (.ref 161), some (.int x1), some (.int (s.1 161 17))]) (st' := [.int (s.1 161 17)]) (S1 := zS c (zsi s5 161 19 (if x1 < (s.1 161 17) then x1 else (s.1 161 17)))) rfl ?_
  obtain ⟨rfl, rfl⟩ := Prod.mk.inj (Option.some.inj h)
  exact zq_iret rfl
def fX12_takes_J29 (n : Nat) (s : zs) (y0 : Int32) : Option (Int32 × zs) := zp (fX12_flag n s y0) (fun r2 => if y0 = 0 ∨ y0 = 1 then some (y0, (zsi s 161 18 ((s.1 161 18) + r2))) else none)
theorem tX12_takes_J29 {n : Nat} {c : Nat × Nat} {s : zs} {y0 : Int32} {r : Int32} {s' : zs} (h : fX12_takes_J29 n s y0 = some (r, s')) : zr kX12_takes 2 1 29 [some (.ref 161), none, none] [.int y0] (zS c s) (some (.int r)) (zS c s') := by
  unfold fX12_takes_J29 at h
  refine zr_many 3 (pc' := 32) (L' := [some (.ref 161), none, some (.int y0)]) (st' := [.ref 161, .ref 161]) (S1 := zS c s) rfl ?_
  refine zq_get rfl (zh_161 _) rfl rfl rfl ?_
  refine zr_many 1 (pc' := 36) (L' := [some (.ref 161), none, some (.int y0)]) (st' := [.int y0, .int (s.1 161 18), .ref 161]) (S1 := zS c s) rfl ?_
  obtain ⟨r2, g4, h⟩ := zp_inv h
  refine zq_scall1 rfl (by decide) rfl rfl (tX12_flag g4) rfl ?_
  refine zr_many 1 (pc' := 40) (L' := [some (.ref 161), none, some (.int y0)]) (st' := [.int ((s.1 161 18) + r2), .ref 161]) (S1 := zS c s) rfl ?_
  refine zq_put (s' := (zsi s 161 18 ((s.1 161 18) + r2))) rfl (zh_161 _) rfl rfl rfl rfl zsi_ne rfl ?_
  refine zr_many 1 (pc' := 44) (L' := [some (.ref 161), none, some (.int y0)]) (st' := [.int y0]) (S1 := zS c (zsi s 161 18 ((s.1 161 18) + r2))) rfl ?_
  obtain ⟨gz, h⟩ := zt_inv h
  obtain ⟨rfl, rfl⟩ := Prod.mk.inj (Option.some.inj h)
  exact zq_zret rfl gz
def fX12_takes_J28 (n : Nat) (s : zs) : Option (Int32 × zs) := fX12_takes_J29 n s (0 : Int32)
theorem tX12_takes_J28 {n : Nat} {c : Nat × Nat} {s : zs} {r : Int32} {s' : zs} (h : fX12_takes_J28 n s = some (r, s')) : zr kX12_takes 2 1 28 [some (.ref 161), none, none] [] (zS c s) (some (.int r)) (zS c s') := by
  unfold fX12_takes_J28 at h
  refine zr_many 1 (pc' := 29) (L' := [some (.ref 161), none, none]) (st' := [.int (0 : Int32)]) (S1 := zS c s) rfl ?_
  exact zr_wk [some (.ref 161), none, none] ⟨rfl, trivial⟩ (tX12_takes_J29 h)
def fX12_takes (n : Nat) (s : zs) (x1 : Int32) : Option (Int32 × zs) := if (s.1 161 19) ≤ (s.1 161 18) then fX12_takes_J28 n s else cond (zi_in (s.1 161 18) 80) (if ¬ (s.1 171 (s.1 161 18).toNatClampNeg) = x1 then fX12_takes_J28 n s else fX12_takes_J29 n s (1 : Int32)) none
theorem tX12_takes {n : Nat} {c : Nat × Nat} {s : zs} {x1 : Int32} {r : Int32} {s' : zs} (h : fX12_takes n s x1 = some (r, s')) : zc 2 2420 [.ref 161, .int x1] (zS c s) (some (.int r)) (zS c s') := by
  refine zc_of (k := kX12_takes) (rt := 2) (L := [some (.ref 161), some (.int x1), none]) zm_2420.1 rfl rfl (by decide) rfl rfl ?_
  unfold fX12_takes at h
  refine zr_many 1 (pc' := 1) (L' := [some (.ref 161), some (.int x1), none]) (st' := [.ref 161]) (S1 := zS c s) rfl ?_
  refine zq_get rfl (zh_161 _) rfl rfl rfl ?_
  refine zr_many 1 (pc' := 5) (L' := [some (.ref 161), some (.int x1), none]) (st' := [.ref 161, .int (s.1 161 18)]) (S1 := zS c s) rfl ?_
  refine zq_get rfl (zh_161 _) rfl rfl rfl ?_
  refine zq_if2 (b := (s.1 161 19) ≤ (s.1 161 18)) rfl Iff.rfl rfl (fun g1 => ?_) (fun g1 => ?_)
  · rw [if_pos g1] at h
    exact zr_wk [some (.ref 161), none, none] ⟨rfl, trivial⟩ (tX12_takes_J28 h)
  · rw [if_neg g1] at h
    refine zr_many 1 (pc' := 12) (L' := [some (.ref 161), some (.int x1), none]) (st' := [.ref 161]) (S1 := zS c s) rfl ?_
    refine zq_get rfl (zh_161 _) rfl rfl rfl ?_
    refine zr_many 1 (pc' := 16) (L' := [some (.ref 161), some (.int x1), none]) (st' := [.ref 161, .ref 171]) (S1 := zS c s) rfl ?_
    refine zq_get rfl (zh_161 _) rfl rfl rfl ?_
    obtain ⟨g5, h⟩ := zi_cond_inv h
    refine zq_ild rfl (zh_171 _) rfl g5 rfl ?_
    refine zr_many 1 (pc' := 21) (L' := [some (.ref 161), some (.int x1), none]) (st' := [.int x1, .int (s.1 171 (s.1 161 18).toNatClampNeg)]) (S1 := zS c s) rfl ?_
    refine zq_if2 (b := ¬ (s.1 171 (s.1 161 18).toNatClampNeg) = x1) rfl Iff.rfl rfl (fun g6 => ?_) (fun g6 => ?_)
    · rw [if_pos g6] at h
      exact zr_wk [some (.ref 161), none, none] ⟨rfl, trivial⟩ (tX12_takes_J28 h)
    · rw [if_neg g6] at h
      refine zr_many 2 (pc' := 29) (L' := [some (.ref 161), some (.int x1), none]) (st' := [.int (1 : Int32)]) (S1 := zS c s) rfl ?_
      exact zr_wk [some (.ref 161), none, none] ⟨rfl, trivial⟩ (tX12_takes_J29 h)
def fX12_isDigit_J38 (n : Nat) (s : zs) (y0 : Int32) : Option Int32 := if y0 = 0 ∨ y0 = 1 then some y0 else none
theorem tX12_isDigit_J38 {n : Nat} {c : Nat × Nat} {s : zs} {y0 : Int32} {r : Int32} (h : fX12_isDigit_J38 n s y0 = some r) : zr kX12_isDigit 2 1 38 [none] [.int y0] (zS c s) (some (.int r)) (zS c s) := by
  unfold fX12_isDigit_J38 at h
  obtain ⟨gz, h⟩ := zt_inv h
  obtain rfl := Option.some.inj h
  exact zq_zret rfl gz
def fX12_isDigit_J37 (n : Nat) (s : zs) : Option Int32 := fX12_isDigit_J38 n s (0 : Int32)
theorem tX12_isDigit_J37 {n : Nat} {c : Nat × Nat} {s : zs} {r : Int32} (h : fX12_isDigit_J37 n s = some r) : zr kX12_isDigit 2 1 37 [none] [] (zS c s) (some (.int r)) (zS c s) := by
  unfold fX12_isDigit_J37 at h
  refine zr_many 1 (pc' := 38) (L' := [none]) (st' := [.int (0 : Int32)]) (S1 := zS c s) rfl ?_
  exact zr_wk [none] trivial (tX12_isDigit_J38 h)
def fX12_isDigit (n : Nat) (s : zs) : Option Int32 := if (s.1 161 19) ≤ (s.1 161 18) then fX12_isDigit_J37 n s else cond (zi_in (s.1 161 18) 80) (zp (fX12_in n s ((s.1 171 (s.1 161 18).toNatClampNeg).toInt64) (48 : Int64) (57 : Int64)) (fun r3 => if r3 = 0 then fX12_isDigit_J37 n s else fX12_isDigit_J38 n s (1 : Int32))) none
theorem tX12_isDigit {n : Nat} {c : Nat × Nat} {s : zs} {r : Int32} (h : fX12_isDigit n s = some r) : zc 2 2421 [.ref 161] (zS c s) (some (.int r)) (zS c s) := by
  refine zc_of (k := kX12_isDigit) (rt := 2) (L := [some (.ref 161)]) zm_2421.1 rfl rfl (by decide) rfl rfl ?_
  unfold fX12_isDigit at h
  refine zr_many 1 (pc' := 1) (L' := [some (.ref 161)]) (st' := [.ref 161]) (S1 := zS c s) rfl ?_
  refine zq_get rfl (zh_161 _) rfl rfl rfl ?_
  refine zr_many 1 (pc' := 5) (L' := [some (.ref 161)]) (st' := [.ref 161, .int (s.1 161 18)]) (S1 := zS c s) rfl ?_
  refine zq_get rfl (zh_161 _) rfl rfl rfl ?_
  refine zq_if2 (b := (s.1 161 19) ≤ (s.1 161 18)) rfl Iff.rfl rfl (fun g1 => ?_) (fun g1 => ?_)
  · rw [if_pos g1] at h
    exact zr_wk [none] trivial (tX12_isDigit_J37 h)
  · rw [if_neg g1] at h
    refine zr_many 1 (pc' := 12) (L' := [some (.ref 161)]) (st' := [.ref 161]) (S1 := zS c s) rfl ?_
    refine zq_get rfl (zh_161 _) rfl rfl rfl ?_
    refine zr_many 1 (pc' := 16) (L' := [some (.ref 161)]) (st' := [.ref 161, .ref 171]) (S1 := zS c s) rfl ?_
    refine zq_get rfl (zh_161 _) rfl rfl rfl ?_
    obtain ⟨g2, h⟩ := zi_cond_inv h
    refine zq_ild rfl (zh_171 _) rfl g2 rfl ?_
    refine zr_many 3 (pc' := 27) (L' := [some (.ref 161)]) (st' := [.long (57 : Int64), .long (48 : Int64), .long (s.1 171 (s.1 161 18).toNatClampNeg).toInt64]) (S1 := zS c s) rfl ?_
    obtain ⟨r3, g5, h⟩ := zp_inv h
    refine zq_scall1 rfl (by decide) rfl rfl (tX12_in g5) rfl ?_
    refine zq_if1 (b := r3 = 0) rfl Iff.rfl rfl (fun g6 => ?_) (fun g6 => ?_)
    · rw [if_pos g6] at h
      exact zr_wk [none] trivial (tX12_isDigit_J37 h)
    · rw [if_neg g6] at h
      refine zr_many 2 (pc' := 38) (L' := [some (.ref 161)]) (st' := [.int (1 : Int32)]) (S1 := zS c s) rfl ?_
      exact zr_wk [none] trivial (tX12_isDigit_J38 h)
def fX12_among_B2 (n : Nat) (s : zs) (m1 : Nat) (w2 : Int32) : Option ((Int32) ⊕ ((Int32) ⊕ (Unit))) := if (Int32.ofNat (ztx m1).length) ≤ w2 then some (Sum.inr (Sum.inr ())) else if (s.1 161 19) ≤ (s.1 161 18) then some (Sum.inr (Sum.inr ())) else cond (zi_in w2 (ztx m1).length) (cond (zi_in (s.1 161 18) 80) (if ¬ ((ztx m1).getD w2.toNatClampNeg 0) = (s.1 171 (s.1 161 18).toNatClampNeg) then some (Sum.inl (w2 + (1 : Int32))) else some (Sum.inr (Sum.inl w2))) none) none
theorem tX12_among_B2 {n : Nat} {c : Nat × Nat} {s : zs} {m1 : Nat} {w2 : Int32} {o : _} {v : Option Value} {S' : zi_S} (hm1 : zT m1) (h : fX12_among_B2 n s m1 w2 = some o) (hn : ∀ w2, o = Sum.inl w2 → zr kX12_among 1 3 2 [some (.ref 161), some (.ref m1), some (.int w2)] [] (zS c s) v S') (hx : ∀ z, o = Sum.inr z → (Sum.elim (fun z => zr kX12_among 1 3 38 [none, none, some (.int z)] [] (zS c s) v S') (fun z => zr kX12_among 1 3 46 [none, none, none] [] (zS c s) v S')) z) : zr kX12_among 1 3 2 [some (.ref 161), some (.ref m1), some (.int w2)] [] (zS c s) v S' := by
  unfold fX12_among_B2 at h
  refine zr_many 2 (pc' := 4) (L' := [some (.ref 161), some (.ref m1), some (.int w2)]) (st' := [.ref m1, .int w2]) (S1 := zS c s) rfl ?_
  refine zq_callT rfl rfl (zh_T hm1 _) rfl (zT_ble hm1) rfl ((zc_len hm1).up (by decide)) rfl ?_
  refine zq_if2 (b := (Int32.ofNat (ztx m1).length) ≤ w2) rfl Iff.rfl rfl (fun g1 => ?_) (fun g1 => ?_)
  · rw [if_pos g1] at h
    obtain rfl := Option.some.inj h
    exact zr_wk [none, none, none] trivial (hx (Sum.inr ()) rfl)
  · rw [if_neg g1] at h
    refine zr_many 1 (pc' := 11) (L' := [some (.ref 161), some (.ref m1), some (.int w2)]) (st' := [.ref 161]) (S1 := zS c s) rfl ?_
    refine zq_get rfl (zh_161 _) rfl rfl rfl ?_
    refine zr_many 1 (pc' := 15) (L' := [some (.ref 161), some (.ref m1), some (.int w2)]) (st' := [.ref 161, .int (s.1 161 18)]) (S1 := zS c s) rfl ?_
    refine zq_get rfl (zh_161 _) rfl rfl rfl ?_
    refine zq_if2 (b := (s.1 161 19) ≤ (s.1 161 18)) rfl Iff.rfl rfl (fun g2 => ?_) (fun g2 => ?_)
    · rw [if_pos g2] at h
      obtain rfl := Option.some.inj h
      exact zr_wk [none, none, none] trivial (hx (Sum.inr ()) rfl)
    · rw [if_neg g2] at h
      refine zr_many 2 (pc' := 23) (L' := [some (.ref 161), some (.ref m1), some (.int w2)]) (st' := [.int w2, .ref m1]) (S1 := zS c s) rfl ?_
      obtain ⟨g3, h⟩ := zi_cond_inv h
      refine zq_callT rfl rfl (zh_T hm1 _) rfl (zT_ble hm1) rfl (zc_chr' hm1 g3) rfl ?_
      refine zr_many 1 (pc' := 27) (L' := [some (.ref 161), some (.ref m1), some (.int w2)]) (st' := [.ref 161, .int ((ztx m1).getD w2.toNatClampNeg 0)]) (S1 := zS c s) rfl ?_
      refine zq_get rfl (zh_161 _) rfl rfl rfl ?_
      refine zr_many 1 (pc' := 31) (L' := [some (.ref 161), some (.ref m1), some (.int w2)]) (st' := [.ref 161, .ref 171, .int ((ztx m1).getD w2.toNatClampNeg 0)]) (S1 := zS c s) rfl ?_
      refine zq_get rfl (zh_161 _) rfl rfl rfl ?_
      obtain ⟨g4, h⟩ := zi_cond_inv h
      refine zq_ild rfl (zh_171 _) rfl g4 rfl ?_
      refine zq_if2 (b := ¬ ((ztx m1).getD w2.toNatClampNeg 0) = (s.1 171 (s.1 161 18).toNatClampNeg)) rfl Iff.rfl rfl (fun g5 => ?_) (fun g5 => ?_)
      · rw [if_pos g5] at h
        refine zr_many 2 (pc' := 2) (L' := [some (.ref 161), some (.ref m1), some (.int (w2 + (1 : Int32)))]) (st' := []) (S1 := zS c s) rfl ?_
        obtain rfl := Option.some.inj h
        exact zr_wk [some (.ref 161), some (.ref m1), some (.int (w2 + (1 : Int32)))] ⟨rfl, rfl, rfl, trivial⟩ (hn (w2 + (1 : Int32)) rfl)
      · rw [if_neg g5] at h
        obtain rfl := Option.some.inj h
        exact zr_wk [none, none, some (.int w2)] ⟨rfl, trivial⟩ (hx (Sum.inl w2) rfl)
def fX12_among_J46 (n : Nat) (s : zs) : Option Int32 := some (-1 : Int32)
theorem tX12_among_J46 {n : Nat} {c : Nat × Nat} {s : zs} {r : Int32} (h : fX12_among_J46 n s = some r) : zr kX12_among 1 3 46 [none, none, none] [] (zS c s) (some (.int r)) (zS c s) := by
  unfold fX12_among_J46 at h
  refine zr_many 1 (pc' := 47) (L' := [none, none, none]) (st' := [.int (-1 : Int32)]) (S1 := zS c s) rfl ?_
  obtain rfl := Option.some.inj h
  exact zq_iret rfl
def fX12_among (n : Nat) (s : zs) (m1 : Nat) : Option Int32 := zp (zl (fX12_among_B2 n s m1) n (0 : Int32)) (Sum.elim (fun w6 => some w6) (fun w7 => fX12_among_J46 n s))
theorem tX12_among {n : Nat} {c : Nat × Nat} {s : zs} {m1 : Nat} {r : Int32} (hm1 : zT m1) (h : fX12_among n s m1 = some r) : zc 4 2422 [.ref 161, .ref m1] (zS c s) (some (.int r)) (zS c s) := by
  refine zc_of (k := kX12_among) (rt := 1) (L := [some (.ref 161), some (.ref m1), none]) zm_2422.1 rfl rfl (by decide) rfl rfl ?_
  unfold fX12_among at h
  refine zr_many 2 (pc' := 2) (L' := [some (.ref 161), some (.ref m1), some (.int (0 : Int32))]) (st' := []) (S1 := zS c s) rfl ?_
  obtain ⟨w9, g8, h⟩ := zp_inv h
  rcases w9 with w6 | w7
  · simp only [Sum.elim_inl, Sum.elim_inr] at h
    refine zr_wk [some (.ref 161), some (.ref m1), some (.int (0 : Int32))] ⟨rfl, rfl, rfl, trivial⟩ (zl_cert (Z := fun w2 => zr kX12_among 1 3 2 [some (.ref 161), some (.ref m1), some (.int w2)] [] (zS c s) _ _) (Y := (Sum.elim (fun z => zr kX12_among 1 3 38 [none, none, some (.int z)] [] (zS c s) _ _) (fun z => zr kX12_among 1 3 46 [none, none, none] [] (zS c s) _ _))) (fun w o h1 h2 h3 => tX12_among_B2 hm1 h1 h2 h3) n _ _ g8 ?_)
    show zr kX12_among 1 3 38 [none, none, some (.int w6)] [] (zS c s) _ _
    refine zr_many 1 (pc' := 39) (L' := [none, none, some (.int w6)]) (st' := [.int w6]) (S1 := zS c s) rfl ?_
    obtain rfl := Option.some.inj h
    exact zq_iret rfl
  · simp only [Sum.elim_inl, Sum.elim_inr] at h
    refine zr_wk [some (.ref 161), some (.ref m1), some (.int (0 : Int32))] ⟨rfl, rfl, rfl, trivial⟩ (zl_cert (Z := fun w2 => zr kX12_among 1 3 2 [some (.ref 161), some (.ref m1), some (.int w2)] [] (zS c s) _ _) (Y := (Sum.elim (fun z => zr kX12_among 1 3 38 [none, none, some (.int z)] [] (zS c s) _ _) (fun z => zr kX12_among 1 3 46 [none, none, none] [] (zS c s) _ _))) (fun w o h1 h2 h3 => tX12_among_B2 hm1 h1 h2 h3) n _ _ g8 ?_)
    show zr kX12_among 1 3 46 [none, none, none] [] (zS c s) _ _
    exact zr_wk [none, none, none] trivial (tX12_among_J46 h)
def fX12_takesOf_J20 (n : Nat) (s : zs) (x2 : Int32) (y1 : Int32) (y2 : Int32) : Option (Int32 × zs) := zp (fX12_flag n s y2) (fun r5 => some (x2, (zsi s 161 18 (y1 + r5))))
theorem tX12_takesOf_J20 {n : Nat} {c : Nat × Nat} {s : zs} {x2 : Int32} {y1 : Int32} {y2 : Int32} {r : Int32} {s' : zs} (h : fX12_takesOf_J20 n s x2 y1 y2 = some (r, s')) : zr kX12_takesOf 1 4 20 [none, none, some (.int x2)] [.int y2, .int y1, .ref 161] (zS c s) (some (.int r)) (zS c s') := by
  unfold fX12_takesOf_J20 at h
  obtain ⟨r5, g7, h⟩ := zp_inv h
  refine zq_scall1 rfl (by decide) rfl rfl ((tX12_flag g7).up (by decide)) rfl ?_
  refine zr_many 1 (pc' := 24) (L' := [none, none, some (.int x2)]) (st' := [.int (y1 + r5), .ref 161]) (S1 := zS c s) rfl ?_
  refine zq_put (s' := (zsi s 161 18 (y1 + r5))) rfl (zh_161 _) rfl rfl rfl rfl zsi_ne rfl ?_
  refine zr_many 1 (pc' := 28) (L' := [none, none, some (.int x2)]) (st' := [.int x2]) (S1 := zS c (zsi s 161 18 (y1 + r5))) rfl ?_
  obtain ⟨rfl, rfl⟩ := Prod.mk.inj (Option.some.inj h)
  exact zq_iret rfl
def fX12_takesOf (n : Nat) (s : zs) (m1 : Nat) : Option (Int32 × zs) := zp (fX12_among n s m1) (fun r1 => if r1 < 0 then fX12_takesOf_J20 n s r1 (s.1 161 18) (0 : Int32) else fX12_takesOf_J20 n s r1 (s.1 161 18) (1 : Int32))
theorem tX12_takesOf {n : Nat} {c : Nat × Nat} {s : zs} {m1 : Nat} {r : Int32} {s' : zs} (hm1 : zT m1) (h : fX12_takesOf n s m1 = some (r, s')) : zc 5 2423 [.ref 161, .ref m1] (zS c s) (some (.int r)) (zS c s') := by
  refine zc_of (k := kX12_takesOf) (rt := 1) (L := [some (.ref 161), some (.ref m1), none]) zm_2423.1 rfl rfl (by decide) rfl rfl ?_
  unfold fX12_takesOf at h
  refine zr_many 2 (pc' := 2) (L' := [some (.ref 161), some (.ref m1), none]) (st' := [.ref m1, .ref 161]) (S1 := zS c s) rfl ?_
  obtain ⟨r1, g3, h⟩ := zp_inv h
  refine zq_call1 rfl rfl (zh_161 _) rfl rfl rfl (tX12_among hm1 g3) rfl ?_
  refine zr_many 3 (pc' := 8) (L' := [some (.ref 161), some (.ref m1), some (.int r1)]) (st' := [.ref 161, .ref 161]) (S1 := zS c s) rfl ?_
  refine zq_get rfl (zh_161 _) rfl rfl rfl ?_
  refine zr_many 1 (pc' := 12) (L' := [some (.ref 161), some (.ref m1), some (.int r1)]) (st' := [.int r1, .int (s.1 161 18), .ref 161]) (S1 := zS c s) rfl ?_
  refine zq_if1 (b := r1 < 0) rfl Iff.rfl rfl (fun g4 => ?_) (fun g4 => ?_)
  · rw [if_pos g4] at h
    refine zr_many 1 (pc' := 20) (L' := [some (.ref 161), some (.ref m1), some (.int r1)]) (st' := [.int (0 : Int32), .int (s.1 161 18), .ref 161]) (S1 := zS c s) rfl ?_
    exact zr_wk [none, none, some (.int r1)] ⟨rfl, trivial⟩ (tX12_takesOf_J20 h)
  · rw [if_neg g4] at h
    refine zr_many 2 (pc' := 20) (L' := [some (.ref 161), some (.ref m1), some (.int r1)]) (st' := [.int (1 : Int32), .int (s.1 161 18), .ref 161]) (S1 := zS c s) rfl ?_
    exact zr_wk [none, none, some (.int r1)] ⟨rfl, trivial⟩ (tX12_takesOf_J20 h)
def fX12_number_B13 (n : Nat) (x1 : Int32) (w13 : Int32 × Int32 × zs) : Option ((Int32 × Int32 × zs) ⊕ (Int32 × zs)) := if x1 ≤ w13.2.1 then some (Sum.inr (w13.1, w13.2.2)) else zp (fX12_isDigit n w13.2.2) (fun r6 => if r6 = 0 then some (Sum.inr (w13.1, w13.2.2)) else cond (zi_in (w13.2.2.1 161 18) 80) (some (Sum.inl (((((10 : Int32) * w13.1) + (w13.2.2.1 171 (w13.2.2.1 161 18).toNatClampNeg)) - (48 : Int32)), (w13.2.1 + (1 : Int32)), (zsi w13.2.2 161 18 ((w13.2.2.1 161 18) + (1 : Int32)))))) none)
theorem tX12_number_B13 {n : Nat} {c : Nat × Nat} {x1 : Int32} {w13 : Int32 × Int32 × zs} {o : _} {v : Option Value} {S' : zi_S} (h : fX12_number_B13 n x1 w13 = some o) (hn : ∀ w13, o = Sum.inl w13 → zr kX12_number 1 2 13 [some (.ref 161), some (.int x1), some (.int w13.1), some (.int w13.2.1)] [] (zS c w13.2.2) v S') (hx : ∀ z, o = Sum.inr z → (fun z => zr kX12_number 1 2 59 [none, none, some (.int z.1), none] [] (zS c z.2) v S') z) : zr kX12_number 1 2 13 [some (.ref 161), some (.int x1), some (.int w13.1), some (.int w13.2.1)] [] (zS c w13.2.2) v S' := by
  unfold fX12_number_B13 at h
  refine zr_many 2 (pc' := 15) (L' := [some (.ref 161), some (.int x1), some (.int w13.1), some (.int w13.2.1)]) (st' := [.int x1, .int w13.2.1]) (S1 := zS c w13.2.2) rfl ?_
  refine zq_if2 (b := x1 ≤ w13.2.1) rfl Iff.rfl rfl (fun g5 => ?_) (fun g5 => ?_)
  · rw [if_pos g5] at h
    obtain rfl := Option.some.inj h
    exact zr_wk [none, none, some (.int w13.1), none] ⟨rfl, trivial⟩ (hx (w13.1, w13.2.2) rfl)
  · rw [if_neg g5] at h
    refine zr_many 1 (pc' := 19) (L' := [some (.ref 161), some (.int x1), some (.int w13.1), some (.int w13.2.1)]) (st' := [.ref 161]) (S1 := zS c w13.2.2) rfl ?_
    obtain ⟨r6, g8, h⟩ := zp_inv h
    refine zq_call1 rfl rfl (zh_161 _) rfl rfl rfl (tX12_isDigit g8) rfl ?_
    refine zq_if1 (b := r6 = 0) rfl Iff.rfl rfl (fun g9 => ?_) (fun g9 => ?_)
    · rw [if_pos g9] at h
      obtain rfl := Option.some.inj h
      exact zr_wk [none, none, some (.int w13.1), none] ⟨rfl, trivial⟩ (hx (w13.1, w13.2.2) rfl)
    · rw [if_neg g9] at h
      refine zr_many 4 (pc' := 30) (L' := [some (.ref 161), some (.int x1), some (.int w13.1), some (.int w13.2.1)]) (st' := [.ref 161, .int ((10 : Int32) * w13.1)]) (S1 := zS c w13.2.2) rfl ?_
      refine zq_get rfl (zh_161 _) rfl rfl rfl ?_
      refine zr_many 1 (pc' := 34) (L' := [some (.ref 161), some (.int x1), some (.int w13.1), some (.int w13.2.1)]) (st' := [.ref 161, .ref 171, .int ((10 : Int32) * w13.1)]) (S1 := zS c w13.2.2) rfl ?_
      refine zq_get rfl (zh_161 _) rfl rfl rfl ?_
      obtain ⟨g10, h⟩ := zi_cond_inv h
      refine zq_ild rfl (zh_171 _) rfl g10 rfl ?_
      refine zr_many 6 (pc' := 45) (L' := [some (.ref 161), some (.int x1), some (.int ((((10 : Int32) * w13.1) + (w13.2.2.1 171 (w13.2.2.1 161 18).toNatClampNeg)) - (48 : Int32))), some (.int w13.2.1)]) (st' := [.ref 161, .ref 161]) (S1 := zS c w13.2.2) rfl ?_
      refine zq_get rfl (zh_161 _) rfl rfl rfl ?_
      refine zr_many 2 (pc' := 50) (L' := [some (.ref 161), some (.int x1), some (.int ((((10 : Int32) * w13.1) + (w13.2.2.1 171 (w13.2.2.1 161 18).toNatClampNeg)) - (48 : Int32))), some (.int w13.2.1)]) (st' := [.int ((w13.2.2.1 161 18) + (1 : Int32)), .ref 161]) (S1 := zS c w13.2.2) rfl ?_
      refine zq_put (s' := (zsi w13.2.2 161 18 ((w13.2.2.1 161 18) + (1 : Int32)))) rfl (zh_161 _) rfl rfl rfl rfl zsi_ne rfl ?_
      refine zr_many 2 (pc' := 13) (L' := [some (.ref 161), some (.int x1), some (.int ((((10 : Int32) * w13.1) + (w13.2.2.1 171 (w13.2.2.1 161 18).toNatClampNeg)) - (48 : Int32))), some (.int (w13.2.1 + (1 : Int32)))]) (st' := []) (S1 := zS c (zsi w13.2.2 161 18 ((w13.2.2.1 161 18) + (1 : Int32)))) rfl ?_
      obtain rfl := Option.some.inj h
      exact zr_wk [some (.ref 161), some (.int x1), some (.int ((((10 : Int32) * w13.1) + (w13.2.2.1 171 (w13.2.2.1 161 18).toNatClampNeg)) - (48 : Int32))), some (.int (w13.2.1 + (1 : Int32)))] ⟨rfl, rfl, rfl, rfl, trivial⟩ (hn (((((10 : Int32) * w13.1) + (w13.2.2.1 171 (w13.2.2.1 161 18).toNatClampNeg)) - (48 : Int32)), (w13.2.1 + (1 : Int32)), (zsi w13.2.2 161 18 ((w13.2.2.1 161 18) + (1 : Int32)))) rfl)
def fX12_number_J59 (n : Nat) (s : zs) (x2 : Int32) : Option (Int32 × zs) := some (x2, s)
theorem tX12_number_J59 {n : Nat} {c : Nat × Nat} {s : zs} {x2 : Int32} {r : Int32} {s' : zs} (h : fX12_number_J59 n s x2 = some (r, s')) : zr kX12_number 1 2 59 [none, none, some (.int x2), none] [] (zS c s) (some (.int r)) (zS c s') := by
  unfold fX12_number_J59 at h
  refine zr_many 1 (pc' := 60) (L' := [none, none, some (.int x2), none]) (st' := [.int x2]) (S1 := zS c s) rfl ?_
  obtain ⟨rfl, rfl⟩ := Prod.mk.inj (Option.some.inj h)
  exact zq_iret rfl
def fX12_number (n : Nat) (s : zs) (x1 : Int32) : Option (Int32 × zs) := zp (fX12_isDigit n s) (fun r1 => if ¬ r1 = 0 then zp (zl (fX12_number_B13 n x1) n ((0 : Int32), (0 : Int32), s)) (fun w11 => fX12_number_J59 n w11.2 w11.1) else some ((-1 : Int32), s))
theorem tX12_number {n : Nat} {c : Nat × Nat} {s : zs} {x1 : Int32} {r : Int32} {s' : zs} (h : fX12_number n s x1 = some (r, s')) : zc 3 2424 [.ref 161, .int x1] (zS c s) (some (.int r)) (zS c s') := by
  refine zc_of (k := kX12_number) (rt := 1) (L := [some (.ref 161), some (.int x1), none, none]) zm_2424.1 rfl rfl (by decide) rfl rfl ?_
  unfold fX12_number at h
  refine zr_many 1 (pc' := 1) (L' := [some (.ref 161), some (.int x1), none, none]) (st' := [.ref 161]) (S1 := zS c s) rfl ?_
  obtain ⟨r1, g3, h⟩ := zp_inv h
  refine zq_call1 rfl rfl (zh_161 _) rfl rfl rfl (tX12_isDigit g3) rfl ?_
  refine zq_if1 (b := ¬ r1 = 0) rfl Iff.rfl rfl (fun g4 => ?_) (fun g4 => ?_)
  · rw [if_pos g4] at h
    refine zr_many 4 (pc' := 13) (L' := [some (.ref 161), some (.int x1), some (.int (0 : Int32)), some (.int (0 : Int32))]) (st' := []) (S1 := zS c s) rfl ?_
    obtain ⟨w11, g12, h⟩ := zp_inv h
    refine zr_wk [some (.ref 161), some (.int x1), some (.int (0 : Int32)), some (.int (0 : Int32))] ⟨rfl, rfl, rfl, rfl, trivial⟩ (zl_cert (Z := fun w13 => zr kX12_number 1 2 13 [some (.ref 161), some (.int x1), some (.int w13.1), some (.int w13.2.1)] [] (zS c w13.2.2) _ _) (Y := (fun z => zr kX12_number 1 2 59 [none, none, some (.int z.1), none] [] (zS c z.2) _ _)) (fun w o h1 h2 h3 => tX12_number_B13 h1 h2 h3) n _ _ g12 ?_)
    show zr kX12_number 1 2 59 [none, none, some (.int w11.1), none] [] (zS c w11.2) _ _
    exact zr_wk [none, none, some (.int w11.1), none] ⟨rfl, trivial⟩ (tX12_number_J59 h)
  · rw [if_neg g4] at h
    refine zr_many 1 (pc' := 8) (L' := [some (.ref 161), some (.int x1), none, none]) (st' := [.int (-1 : Int32)]) (S1 := zS c s) rfl ?_
    obtain ⟨rfl, rfl⟩ := Prod.mk.inj (Option.some.inj h)
    exact zq_iret rfl
def fX12_signIn_J33 (n : Nat) (s : zs) : Option (Int32 × zs) := some ((-1 : Int32), s)
theorem tX12_signIn_J33 {n : Nat} {c : Nat × Nat} {s : zs} {r : Int32} {s' : zs} (h : fX12_signIn_J33 n s = some (r, s')) : zr kX12_signIn 1 1 33 [none, none, none, none] [] (zS c s) (some (.int r)) (zS c s') := by
  unfold fX12_signIn_J33 at h
  refine zr_many 1 (pc' := 34) (L' := [none, none, none, none]) (st' := [.int (-1 : Int32)]) (S1 := zS c s) rfl ?_
  obtain ⟨rfl, rfl⟩ := Prod.mk.inj (Option.some.inj h)
  exact zq_iret rfl
def fX12_signIn (n : Nat) (s : zs) (x1 : Int32) (x2 : Int32) (x3 : Int32) : Option (Int32 × zs) := if (s.1 161 19) ≤ (s.1 161 18) then fX12_signIn_J33 n s else cond (zi_in (s.1 161 18) 80) (zp (fX12_in n s (((s.1 171 (s.1 161 18).toNatClampNeg) - x1).toInt64) x2.toInt64 x3.toInt64) (fun r3 => if ¬ r3 = 0 then cond (zi_in (((zsi s 161 18 ((s.1 161 18) + (1 : Int32))).1 161 18) - (1 : Int32)) 80) (some ((((zsi s 161 18 ((s.1 161 18) + (1 : Int32))).1 171 (((zsi s 161 18 ((s.1 161 18) + (1 : Int32))).1 161 18) - (1 : Int32)).toNatClampNeg) - x1), (zsi s 161 18 ((s.1 161 18) + (1 : Int32))))) none else fX12_signIn_J33 n s)) none
theorem tX12_signIn {n : Nat} {c : Nat × Nat} {s : zs} {x1 : Int32} {x2 : Int32} {x3 : Int32} {r : Int32} {s' : zs} (h : fX12_signIn n s x1 x2 x3 = some (r, s')) : zc 2 2425 [.ref 161, .int x1, .int x2, .int x3] (zS c s) (some (.int r)) (zS c s') := by
  refine zc_of (k := kX12_signIn) (rt := 1) (L := [some (.ref 161), some (.int x1), some (.int x2), some (.int x3)]) zm_2425.1 rfl rfl (by decide) rfl rfl ?_
  unfold fX12_signIn at h
  refine zr_many 1 (pc' := 1) (L' := [some (.ref 161), some (.int x1), some (.int x2), some (.int x3)]) (st' := [.ref 161]) (S1 := zS c s) rfl ?_
  refine zq_get rfl (zh_161 _) rfl rfl rfl ?_
  refine zr_many 1 (pc' := 5) (L' := [some (.ref 161), some (.int x1), some (.int x2), some (.int x3)]) (st' := [.ref 161, .int (s.1 161 18)]) (S1 := zS c s) rfl ?_
  refine zq_get rfl (zh_161 _) rfl rfl rfl ?_
  refine zq_if2 (b := (s.1 161 19) ≤ (s.1 161 18)) rfl Iff.rfl rfl (fun g1 => ?_) (fun g1 => ?_)
  · rw [if_pos g1] at h
    exact zr_wk [none, none, none, none] trivial (tX12_signIn_J33 h)
  · rw [if_neg g1] at h
    refine zr_many 1 (pc' := 12) (L' := [some (.ref 161), some (.int x1), some (.int x2), some (.int x3)]) (st' := [.ref 161]) (S1 := zS c s) rfl ?_
    refine zq_get rfl (zh_161 _) rfl rfl rfl ?_
    refine zr_many 1 (pc' := 16) (L' := [some (.ref 161), some (.int x1), some (.int x2), some (.int x3)]) (st' := [.ref 161, .ref 171]) (S1 := zS c s) rfl ?_
    refine zq_get rfl (zh_161 _) rfl rfl rfl ?_
    obtain ⟨g2, h⟩ := zi_cond_inv h
    refine zq_ild rfl (zh_171 _) rfl g2 rfl ?_
    refine zr_many 7 (pc' := 27) (L' := [some (.ref 161), some (.int x1), some (.int x2), some (.int x3)]) (st' := [.long x3.toInt64, .long x2.toInt64, .long ((s.1 171 (s.1 161 18).toNatClampNeg) - x1).toInt64]) (S1 := zS c s) rfl ?_
    obtain ⟨r3, g5, h⟩ := zp_inv h
    refine zq_scall1 rfl (by decide) rfl rfl (tX12_in g5) rfl ?_
    refine zq_if1 (b := ¬ r3 = 0) rfl Iff.rfl rfl (fun g6 => ?_) (fun g6 => ?_)
    · rw [if_pos g6] at h
      refine zr_many 2 (pc' := 37) (L' := [some (.ref 161), some (.int x1), some (.int x2), some (.int x3)]) (st' := [.ref 161, .ref 161]) (S1 := zS c s) rfl ?_
      refine zq_get rfl (zh_161 _) rfl rfl rfl ?_
      refine zr_many 2 (pc' := 42) (L' := [some (.ref 161), some (.int x1), some (.int x2), some (.int x3)]) (st' := [.int ((s.1 161 18) + (1 : Int32)), .ref 161]) (S1 := zS c s) rfl ?_
      refine zq_put (s' := (zsi s 161 18 ((s.1 161 18) + (1 : Int32)))) rfl (zh_161 _) rfl rfl rfl rfl zsi_ne rfl ?_
      refine zr_many 1 (pc' := 46) (L' := [some (.ref 161), some (.int x1), some (.int x2), some (.int x3)]) (st' := [.ref 161]) (S1 := zS c (zsi s 161 18 ((s.1 161 18) + (1 : Int32)))) rfl ?_
      refine zq_get rfl (zh_161 _) rfl rfl rfl ?_
      refine zr_many 1 (pc' := 50) (L' := [some (.ref 161), some (.int x1), some (.int x2), some (.int x3)]) (st' := [.ref 161, .ref 171]) (S1 := zS c (zsi s 161 18 ((s.1 161 18) + (1 : Int32)))) rfl ?_
      refine zq_get rfl (zh_161 _) rfl rfl rfl ?_
      refine zr_many 2 (pc' := 55) (L' := [some (.ref 161), some (.int x1), some (.int x2), some (.int x3)]) (st' := [.int (((zsi s 161 18 ((s.1 161 18) + (1 : Int32))).1 161 18) - (1 : Int32)), .ref 171]) (S1 := zS c (zsi s 161 18 ((s.1 161 18) + (1 : Int32)))) rfl ?_
      obtain ⟨g7, h⟩ := zi_cond_inv h
      refine zq_ild rfl (zh_171 _) rfl g7 rfl ?_
      refine zr_many 2 (pc' := 58) (L' := [some (.ref 161), some (.int x1), some (.int x2), some (.int x3)]) (st' := [.int (((zsi s 161 18 ((s.1 161 18) + (1 : Int32))).1 171 (((zsi s 161 18 ((s.1 161 18) + (1 : Int32))).1 161 18) - (1 : Int32)).toNatClampNeg) - x1)]) (S1 := zS c (zsi s 161 18 ((s.1 161 18) + (1 : Int32)))) rfl ?_
      obtain ⟨rfl, rfl⟩ := Prod.mk.inj (Option.some.inj h)
      exact zq_iret rfl
    · rw [if_neg g6] at h
      exact zr_wk [none, none, none, none] trivial (tX12_signIn_J33 h)
def fX12_faultOf_J59 (n : Nat) (s : zs) (y0 : Int32) : Option Int32 := some y0
theorem tX12_faultOf_J59 {n : Nat} {c : Nat × Nat} {s : zs} {y0 : Int32} {r : Int32} (h : fX12_faultOf_J59 n s y0 = some r) : zr kX12_faultOf 1 0 59 [none, none, none, none, none] [.int y0] (zS c s) (some (.int r)) (zS c s) := by
  unfold fX12_faultOf_J59 at h
  obtain rfl := Option.some.inj h
  exact zq_iret rfl
def fX12_faultOf_J44 (n : Nat) (s : zs) (x4 : Int32) : Option Int32 := if x4 = 0 then fX12_faultOf_J59 n s ((-1 : Int32) - (s.1 161 18)) else fX12_faultOf_J59 n s (0 : Int32)
theorem tX12_faultOf_J44 {n : Nat} {c : Nat × Nat} {s : zs} {x4 : Int32} {r : Int32} (h : fX12_faultOf_J44 n s x4 = some r) : zr kX12_faultOf 1 0 44 [some (.ref 161), none, none, none, some (.int x4)] [] (zS c s) (some (.int r)) (zS c s) := by
  unfold fX12_faultOf_J44 at h
  refine zr_many 1 (pc' := 46) (L' := [some (.ref 161), none, none, none, some (.int x4)]) (st' := [.int x4]) (S1 := zS c s) rfl ?_
  refine zq_if1 (b := x4 = 0) rfl Iff.rfl rfl (fun g3 => ?_) (fun g3 => ?_)
  · rw [if_pos g3] at h
    refine zr_many 2 (pc' := 55) (L' := [some (.ref 161), none, none, none, some (.int x4)]) (st' := [.ref 161, .int (-1 : Int32)]) (S1 := zS c s) rfl ?_
    refine zq_get rfl (zh_161 _) rfl rfl rfl ?_
    refine zr_many 1 (pc' := 59) (L' := [some (.ref 161), none, none, none, some (.int x4)]) (st' := [.int ((-1 : Int32) - (s.1 161 18))]) (S1 := zS c s) rfl ?_
    exact zr_wk [none, none, none, none, none] trivial (tX12_faultOf_J59 h)
  · rw [if_neg g3] at h
    refine zr_many 2 (pc' := 59) (L' := [some (.ref 161), none, none, none, some (.int x4)]) (st' := [.int (0 : Int32)]) (S1 := zS c s) rfl ?_
    exact zr_wk [none, none, none, none, none] trivial (tX12_faultOf_J59 h)
def fX12_faultOf_J40 (n : Nat) (s : zs) (x2 : Int32) : Option Int32 := some ((-1 : Int32) - x2)
theorem tX12_faultOf_J40 {n : Nat} {c : Nat × Nat} {s : zs} {x2 : Int32} {r : Int32} (h : fX12_faultOf_J40 n s x2 = some r) : zr kX12_faultOf 1 0 40 [none, none, some (.int x2), none, none] [] (zS c s) (some (.int r)) (zS c s) := by
  unfold fX12_faultOf_J40 at h
  refine zr_many 3 (pc' := 43) (L' := [none, none, some (.int x2), none, none]) (st' := [.int ((-1 : Int32) - x2)]) (S1 := zS c s) rfl ?_
  obtain rfl := Option.some.inj h
  exact zq_iret rfl
def fX12_faultOf_J20 (n : Nat) (s : zs) (x1 : Int32) (x2 : Int32) (y0 : Int32) : Option Int32 := if x1 ≤ x2 then fX12_faultOf_J44 n s y0 else if ¬ y0 = 0 then fX12_faultOf_J40 n s x2 else if (s.1 161 18) < x2 then fX12_faultOf_J44 n s y0 else fX12_faultOf_J40 n s x2
theorem tX12_faultOf_J20 {n : Nat} {c : Nat × Nat} {s : zs} {x1 : Int32} {x2 : Int32} {y0 : Int32} {r : Int32} (h : fX12_faultOf_J20 n s x1 x2 y0 = some r) : zr kX12_faultOf 1 0 20 [some (.ref 161), some (.int x1), some (.int x2), none, none] [.int y0] (zS c s) (some (.int r)) (zS c s) := by
  unfold fX12_faultOf_J20 at h
  refine zr_many 3 (pc' := 24) (L' := [some (.ref 161), some (.int x1), some (.int x2), none, some (.int y0)]) (st' := [.int x2, .int x1]) (S1 := zS c s) rfl ?_
  refine zq_if2 (b := x1 ≤ x2) rfl Iff.rfl rfl (fun g2 => ?_) (fun g2 => ?_)
  · rw [if_pos g2] at h
    exact zr_wk [some (.ref 161), none, none, none, some (.int y0)] ⟨rfl, rfl, trivial⟩ (tX12_faultOf_J44 h)
  · rw [if_neg g2] at h
    refine zr_many 1 (pc' := 29) (L' := [some (.ref 161), some (.int x1), some (.int x2), none, some (.int y0)]) (st' := [.int y0]) (S1 := zS c s) rfl ?_
    refine zq_if1 (b := ¬ y0 = 0) rfl Iff.rfl rfl (fun g4 => ?_) (fun g4 => ?_)
    · rw [if_pos g4] at h
      exact zr_wk [none, none, some (.int x2), none, none] ⟨rfl, trivial⟩ (tX12_faultOf_J40 h)
    · rw [if_neg g4] at h
      refine zr_many 1 (pc' := 33) (L' := [some (.ref 161), some (.int x1), some (.int x2), none, some (.int y0)]) (st' := [.ref 161]) (S1 := zS c s) rfl ?_
      refine zq_get rfl (zh_161 _) rfl rfl rfl ?_
      refine zr_many 1 (pc' := 37) (L' := [some (.ref 161), some (.int x1), some (.int x2), none, some (.int y0)]) (st' := [.int x2, .int (s.1 161 18)]) (S1 := zS c s) rfl ?_
      refine zq_if2 (b := (s.1 161 18) < x2) rfl Iff.rfl rfl (fun g5 => ?_) (fun g5 => ?_)
      · rw [if_pos g5] at h
        exact zr_wk [some (.ref 161), none, none, none, some (.int y0)] ⟨rfl, rfl, trivial⟩ (tX12_faultOf_J44 h)
      · rw [if_neg g5] at h
        exact zr_wk [none, none, some (.int x2), none, none] ⟨rfl, trivial⟩ (tX12_faultOf_J40 h)
def fX12_faultOf_J19 (n : Nat) (s : zs) (x1 : Int32) (x2 : Int32) : Option Int32 := fX12_faultOf_J20 n s x1 x2 (0 : Int32)
theorem tX12_faultOf_J19 {n : Nat} {c : Nat × Nat} {s : zs} {x1 : Int32} {x2 : Int32} {r : Int32} (h : fX12_faultOf_J19 n s x1 x2 = some r) : zr kX12_faultOf 1 0 19 [some (.ref 161), some (.int x1), some (.int x2), none, none] [] (zS c s) (some (.int r)) (zS c s) := by
  unfold fX12_faultOf_J19 at h
  refine zr_many 1 (pc' := 20) (L' := [some (.ref 161), some (.int x1), some (.int x2), none, none]) (st' := [.int (0 : Int32)]) (S1 := zS c s) rfl ?_
  exact zr_wk [some (.ref 161), some (.int x1), some (.int x2), none, none] ⟨rfl, rfl, rfl, trivial⟩ (tX12_faultOf_J20 h)
def fX12_faultOf (n : Nat) (s : zs) (x1 : Int32) (x2 : Int32) (x3 : Int32) : Option Int32 := if x3 = 0 then fX12_faultOf_J19 n s x1 x2 else if ¬ (s.1 161 18) = (s.1 161 19) then fX12_faultOf_J19 n s x1 x2 else fX12_faultOf_J20 n s x1 x2 (1 : Int32)
theorem tX12_faultOf {n : Nat} {c : Nat × Nat} {s : zs} {x1 : Int32} {x2 : Int32} {x3 : Int32} {r : Int32} (h : fX12_faultOf n s x1 x2 x3 = some r) : zc 1 2426 [.ref 161, .int x1, .int x2, .int x3] (zS c s) (some (.int r)) (zS c s) := by
  refine zc_of (k := kX12_faultOf) (rt := 1) (L := [some (.ref 161), some (.int x1), some (.int x2), some (.int x3), none]) zm_2426.1 rfl rfl (by decide) rfl rfl ?_
  unfold fX12_faultOf at h
  refine zr_many 1 (pc' := 1) (L' := [some (.ref 161), some (.int x1), some (.int x2), some (.int x3), none]) (st' := [.int x3]) (S1 := zS c s) rfl ?_
  refine zq_if1 (b := x3 = 0) rfl Iff.rfl rfl (fun g1 => ?_) (fun g1 => ?_)
  · rw [if_pos g1] at h
    exact zr_wk [some (.ref 161), some (.int x1), some (.int x2), none, none] ⟨rfl, rfl, rfl, trivial⟩ (tX12_faultOf_J19 h)
  · rw [if_neg g1] at h
    refine zr_many 1 (pc' := 5) (L' := [some (.ref 161), some (.int x1), some (.int x2), some (.int x3), none]) (st' := [.ref 161]) (S1 := zS c s) rfl ?_
    refine zq_get rfl (zh_161 _) rfl rfl rfl ?_
    refine zr_many 1 (pc' := 9) (L' := [some (.ref 161), some (.int x1), some (.int x2), some (.int x3), none]) (st' := [.ref 161, .int (s.1 161 18)]) (S1 := zS c s) rfl ?_
    refine zq_get rfl (zh_161 _) rfl rfl rfl ?_
    refine zq_if2 (b := ¬ (s.1 161 18) = (s.1 161 19)) rfl Iff.rfl rfl (fun g6 => ?_) (fun g6 => ?_)
    · rw [if_pos g6] at h
      exact zr_wk [some (.ref 161), some (.int x1), some (.int x2), none, none] ⟨rfl, rfl, rfl, trivial⟩ (tX12_faultOf_J19 h)
    · rw [if_neg g6] at h
      refine zr_many 2 (pc' := 20) (L' := [some (.ref 161), some (.int x1), some (.int x2), some (.int x3), none]) (st' := [.int (1 : Int32)]) (S1 := zS c s) rfl ?_
      exact zr_wk [some (.ref 161), some (.int x1), some (.int x2), none, none] ⟨rfl, rfl, rfl, trivial⟩ (tX12_faultOf_J20 h)
