/-! ===== printed by wip/gen/dec.py: the methods as functions, each with its run ===== -/
def fX12_fitting_J55 (n : Nat) (s : zs) (x2 : Int32) (y0 : Int32) (y1 : Int32) : Option ((Int32 × Int32) ⊕ (Int32)) := some (Sum.inl ((y0 &&& y1), (x2 + (1 : Int32))))
theorem tX12_fitting_J55 {n : Nat} {c : Nat × Nat} {s : zs} {x2 : Int32} {y0 : Int32} {y1 : Int32} {o : _} {v : Option Value} {S' : zi_S} (h : fX12_fitting_J55 n s x2 y0 y1 = some o) (hn : ∀ w11, o = Sum.inl w11 → zr kX12_fitting 1 2 11 [some (.ref 161), some (.int w11.1), some (.int w11.2)] [] (zS c s) v S') (hx : ∀ z, o = Sum.inr z → (fun z => zr kX12_fitting 1 2 63 [none, some (.int z), none] [] (zS c s) v S') z) : zr kX12_fitting 1 2 55 [some (.ref 161), none, some (.int x2)] [.int y1, .int y0] (zS c s) v S' := by
  unfold fX12_fitting_J55 at h
  refine zr_many 4 (pc' := 11) (L' := [some (.ref 161), some (.int (y0 &&& y1)), some (.int (x2 + (1 : Int32)))]) (st' := []) (S1 := zS c s) rfl ?_
  obtain rfl := Option.some.inj h
  exact zr_wk [some (.ref 161), some (.int (y0 &&& y1)), some (.int (x2 + (1 : Int32)))] ⟨rfl, rfl, rfl, trivial⟩ (hn ((y0 &&& y1), (x2 + (1 : Int32))) rfl)
def fX12_fitting_B11 (n : Nat) (s : zs) (w11 : Int32 × Int32) : Option ((Int32 × Int32) ⊕ (Int32)) := if (s.1 161 45) ≤ w11.2 then some (Sum.inr w11.1) else cond (zi_in w11.2 12) (if ¬ (s.1 187 w11.2.toNatClampNeg) = (1 : Int32) then cond (zi_in w11.2 12) (zp (fX12_singersOf n s (s.1 186 w11.2.toNatClampNeg)) (fun r5 => fX12_fitting_J55 n s w11.2 w11.1 (r5 ^^^ (-1 : Int32)))) none else cond (zi_in w11.2 12) (zp (fX12_singersOf n s (s.1 186 w11.2.toNatClampNeg)) (fun r9 => fX12_fitting_J55 n s w11.2 w11.1 r9)) none) none
theorem tX12_fitting_B11 {n : Nat} {c : Nat × Nat} {s : zs} {w11 : Int32 × Int32} {o : _} {v : Option Value} {S' : zi_S} (h : fX12_fitting_B11 n s w11 = some o) (hn : ∀ w11, o = Sum.inl w11 → zr kX12_fitting 1 2 11 [some (.ref 161), some (.int w11.1), some (.int w11.2)] [] (zS c s) v S') (hx : ∀ z, o = Sum.inr z → (fun z => zr kX12_fitting 1 2 63 [none, some (.int z), none] [] (zS c s) v S') z) : zr kX12_fitting 1 2 11 [some (.ref 161), some (.int w11.1), some (.int w11.2)] [] (zS c s) v S' := by
  unfold fX12_fitting_B11 at h
  refine zr_many 2 (pc' := 13) (L' := [some (.ref 161), some (.int w11.1), some (.int w11.2)]) (st' := [.ref 161, .int w11.2]) (S1 := zS c s) rfl ?_
  refine zq_get rfl (zh_161 _) rfl rfl rfl ?_
  refine zq_if2 (b := (s.1 161 45) ≤ w11.2) rfl Iff.rfl rfl (fun g1 => ?_) (fun g1 => ?_)
  · rw [if_pos g1] at h
    obtain rfl := Option.some.inj h
    exact zr_wk [none, some (.int w11.1), none] ⟨rfl, trivial⟩ (hx w11.1 rfl)
  · rw [if_neg g1] at h
    refine zr_many 2 (pc' := 21) (L' := [some (.ref 161), some (.int w11.1), some (.int w11.2)]) (st' := [.ref 161, .int w11.1]) (S1 := zS c s) rfl ?_
    refine zq_get rfl (zh_161 _) rfl rfl rfl ?_
    refine zr_many 1 (pc' := 25) (L' := [some (.ref 161), some (.int w11.1), some (.int w11.2)]) (st' := [.int w11.2, .ref 187, .int w11.1]) (S1 := zS c s) rfl ?_
    obtain ⟨g2, h⟩ := zi_cond_inv h
    refine zq_ild rfl (zh_187 _) rfl g2 rfl ?_
    refine zr_many 1 (pc' := 27) (L' := [some (.ref 161), some (.int w11.1), some (.int w11.2)]) (st' := [.int (1 : Int32), .int (s.1 187 w11.2.toNatClampNeg), .int w11.1]) (S1 := zS c s) rfl ?_
    refine zq_if2 (b := ¬ (s.1 187 w11.2.toNatClampNeg) = (1 : Int32)) rfl Iff.rfl rfl (fun g3 => ?_) (fun g3 => ?_)
    · rw [if_pos g3] at h
      refine zr_many 2 (pc' := 45) (L' := [some (.ref 161), some (.int w11.1), some (.int w11.2)]) (st' := [.ref 161, .ref 161, .int w11.1]) (S1 := zS c s) rfl ?_
      refine zq_get rfl (zh_161 _) rfl rfl rfl ?_
      refine zr_many 1 (pc' := 49) (L' := [some (.ref 161), some (.int w11.1), some (.int w11.2)]) (st' := [.int w11.2, .ref 186, .ref 161, .int w11.1]) (S1 := zS c s) rfl ?_
      obtain ⟨g4, h⟩ := zi_cond_inv h
      refine zq_ild rfl (zh_186 _) rfl g4 rfl ?_
      obtain ⟨r5, g7, h⟩ := zp_inv h
      refine zq_call1 rfl rfl (zh_161 _) rfl rfl rfl (tX12_singersOf g7) rfl ?_
      refine zr_many 2 (pc' := 55) (L' := [some (.ref 161), some (.int w11.1), some (.int w11.2)]) (st' := [.int (r5 ^^^ (-1 : Int32)), .int w11.1]) (S1 := zS c s) rfl ?_
      exact zr_wk [some (.ref 161), none, some (.int w11.2)] ⟨rfl, rfl, trivial⟩ (tX12_fitting_J55 h hn hx)
    · rw [if_neg g3] at h
      refine zr_many 2 (pc' := 32) (L' := [some (.ref 161), some (.int w11.1), some (.int w11.2)]) (st' := [.ref 161, .ref 161, .int w11.1]) (S1 := zS c s) rfl ?_
      refine zq_get rfl (zh_161 _) rfl rfl rfl ?_
      refine zr_many 1 (pc' := 36) (L' := [some (.ref 161), some (.int w11.1), some (.int w11.2)]) (st' := [.int w11.2, .ref 186, .ref 161, .int w11.1]) (S1 := zS c s) rfl ?_
      obtain ⟨g8, h⟩ := zi_cond_inv h
      refine zq_ild rfl (zh_186 _) rfl g8 rfl ?_
      obtain ⟨r9, g11, h⟩ := zp_inv h
      refine zq_call1 rfl rfl (zh_161 _) rfl rfl rfl (tX12_singersOf g11) rfl ?_
      refine zr_many 1 (pc' := 55) (L' := [some (.ref 161), some (.int w11.1), some (.int w11.2)]) (st' := [.int r9, .int w11.1]) (S1 := zS c s) rfl ?_
      exact zr_wk [some (.ref 161), none, some (.int w11.2)] ⟨rfl, rfl, trivial⟩ (tX12_fitting_J55 h hn hx)
def fX12_fitting (n : Nat) (s : zs) : Option Int32 := zp (zl (fX12_fitting_B11 n s) n ((((1 : Int32) <<< ((s.1 161 4) &&& 31)) - (1 : Int32)), (0 : Int32))) (fun w12 => some w12)
theorem tX12_fitting {n : Nat} {c : Nat × Nat} {s : zs} {r : Int32} (h : fX12_fitting n s = some r) : zc 3 2497 [.ref 161] (zS c s) (some (.int r)) (zS c s) := by
  refine zc_of (k := kX12_fitting) (rt := 1) (L := [some (.ref 161), none, none]) zm_2497.1 rfl rfl (by decide) rfl rfl ?_
  unfold fX12_fitting at h
  refine zr_many 2 (pc' := 2) (L' := [some (.ref 161), none, none]) (st' := [.ref 161, .int (1 : Int32)]) (S1 := zS c s) rfl ?_
  refine zq_get rfl (zh_161 _) rfl rfl rfl ?_
  refine zr_many 6 (pc' := 11) (L' := [some (.ref 161), some (.int (((1 : Int32) <<< ((s.1 161 4) &&& 31)) - (1 : Int32))), some (.int (0 : Int32))]) (st' := []) (S1 := zS c s) rfl ?_
  obtain ⟨w12, g13, h⟩ := zp_inv h
  refine zr_wk [some (.ref 161), some (.int (((1 : Int32) <<< ((s.1 161 4) &&& 31)) - (1 : Int32))), some (.int (0 : Int32))] ⟨rfl, rfl, rfl, trivial⟩ (zl_cert (Z := fun w11 => zr kX12_fitting 1 2 11 [some (.ref 161), some (.int w11.1), some (.int w11.2)] [] (zS c s) _ _) (Y := (fun z => zr kX12_fitting 1 2 63 [none, some (.int z), none] [] (zS c s) _ _)) (fun w o h1 h2 h3 => tX12_fitting_B11 h1 h2 h3) n _ _ g13 ?_)
  show zr kX12_fitting 1 2 63 [none, some (.int w12), none] [] (zS c s) _ _
  refine zr_many 1 (pc' := 64) (L' := [none, some (.int w12), none]) (st' := [.int w12]) (S1 := zS c s) rfl ?_
  obtain rfl := Option.some.inj h
  exact zq_iret rfl
def fX12_who (n : Nat) (s : zs) : Option (Int32 × zs) := zp (fX12_fitting n (zsi s 161 0 (0 : Int32))) (fun r1 => zt (zsi s 161 0 (0 : Int32)) (fun s4 => zp (fJ6_bitCount_0f7a4 n (zsi s4 161 1 (0 : Int32)) r1) (fun r6 => zp (fX12_enters n (zsi s4 161 1 (0 : Int32)) r6.toInt64) (fun s10 => some (r1, s10)))))
theorem tX12_who {n : Nat} {c : Nat × Nat} {s : zs} {r : Int32} {s' : zs} (h : fX12_who n s = some (r, s')) : zc 4 2498 [.ref 161] (zS c s) (some (.int r)) (zS c s') := by
  refine zc_of (k := kX12_who) (rt := 1) (L := [some (.ref 161), none]) zm_2498.1 rfl rfl (by decide) rfl rfl ?_
  unfold fX12_who at h
  refine zr_many 2 (pc' := 2) (L' := [some (.ref 161), none]) (st' := [.int (0 : Int32), .ref 161]) (S1 := zS c s) rfl ?_
  refine zq_put (s' := (zsi s 161 0 (0 : Int32))) rfl (zh_161 _) rfl rfl rfl rfl zsi_ne rfl ?_
  refine zr_many 1 (pc' := 6) (L' := [some (.ref 161), none]) (st' := [.ref 161]) (S1 := zS c (zsi s 161 0 (0 : Int32))) rfl ?_
  obtain ⟨r1, g3, h⟩ := zp_inv h
  refine zq_call1 rfl rfl (zh_161 _) rfl rfl rfl (tX12_fitting g3) rfl ?_
  refine zr_many 3 (pc' := 12) (L' := [some (.ref 161), some (.int r1)]) (st' := [.int (0 : Int32), .ref 161]) (S1 := zS c (zsi s 161 0 (0 : Int32))) rfl ?_
  obtain ⟨s4, e5, h⟩ := zt_in h
  rw [← e5]
  refine zq_put (s' := (zsi s4 161 1 (0 : Int32))) rfl (zh_161 _) rfl rfl rfl rfl zsi_ne rfl ?_
  refine zr_many 2 (pc' := 17) (L' := [some (.ref 161), some (.int r1)]) (st' := [.int r1, .ref 161]) (S1 := zS c (zsi s4 161 1 (0 : Int32))) rfl ?_
  obtain ⟨r6, g8, h⟩ := zp_inv h
  refine zq_scall1 rfl (by decide) rfl rfl ((tJ6_bitCount_0f7a4 g8).up (by decide)) rfl ?_
  refine zr_many 1 (pc' := 21) (L' := [some (.ref 161), some (.int r1)]) (st' := [.long r6.toInt64, .ref 161]) (S1 := zS c (zsi s4 161 1 (0 : Int32))) rfl ?_
  obtain ⟨s10, g11, h⟩ := zp_inv h
  refine zq_call0 rfl rfl (zh_161 _) rfl rfl rfl ((tX12_enters g11).up (by decide)) rfl ?_
  refine zr_many 1 (pc' := 25) (L' := [some (.ref 161), some (.int r1)]) (st' := [.int r1]) (S1 := zS c s10) rfl ?_
  obtain ⟨rfl, rfl⟩ := Prod.mk.inj (Option.some.inj h)
  exact zq_iret rfl
def fX12_listen_J74 (n : Nat) (s : zs) (x1 : Int32) (x3 : Int32) (x4 : Int32) (x5 : Int32) (y0 : Int32) : Option ((Int32 × Int32 × Int32) ⊕ (Int32 × Int32)) := some (Sum.inl (y0, (if x5 < x3 then x5 else x3), (x4 + (1 : Int32))))
theorem tX12_listen_J74 {n : Nat} {c : Nat × Nat} {s : zs} {x1 : Int32} {x3 : Int32} {x4 : Int32} {x5 : Int32} {y0 : Int32} {o : _} {v : Option Value} {S' : zi_S} (h : fX12_listen_J74 n s x1 x3 x4 x5 y0 = some o) (hn : ∀ w26, o = Sum.inl w26 → zr kX12_listen 1 3 26 [some (.ref 161), some (.int x1), some (.int w26.1), some (.int w26.2.1), some (.int w26.2.2), none] [] (zS c s) v S') (hx : ∀ z, o = Sum.inr z → (fun z => zr kX12_listen 1 3 88 [some (.ref 161), none, some (.int z.1), some (.int z.2), none, none] [] (zS c s) v S') z) : zr kX12_listen 1 3 74 [some (.ref 161), some (.int x1), none, some (.int x3), some (.int x4), some (.int x5)] [.int y0] (zS c s) v S' := by
  unfold fX12_listen_J74 at h
  refine zr_many 7 (pc' := 26) (L' := [some (.ref 161), some (.int x1), some (.int y0), some (.int (if x5 < x3 then x5 else x3)), some (.int (x4 + (1 : Int32))), some (.int x5)]) (st' := []) (S1 := zS c s) rfl ?_
  obtain rfl := Option.some.inj h
  exact zr_wk [some (.ref 161), some (.int x1), some (.int y0), some (.int (if x5 < x3 then x5 else x3)), some (.int (x4 + (1 : Int32))), none] ⟨rfl, rfl, rfl, rfl, rfl, trivial⟩ (hn (y0, (if x5 < x3 then x5 else x3), (x4 + (1 : Int32))) rfl)
def fX12_listen_B26 (n : Nat) (s : zs) (x1 : Int32) (w26 : Int32 × Int32 × Int32) : Option ((Int32 × Int32 × Int32) ⊕ (Int32 × Int32)) := if (26 : Int32) ≤ w26.2.2 then some (Sum.inr (w26.1, w26.2.1)) else zp (fX12_singersOf n s w26.2.2) (fun r6 => zp (fJ6_bitCount_0f7a4 n s (x1 &&& r6)) (fun r9 => zp (fX12_singersOf n s w26.2.2) (fun r12 => zp (fJ6_bitCount_0f7a4 n s (x1 &&& (r12 ^^^ (-1 : Int32)))) (fun r15 => if w26.2.1 ≤ (if r9 < r15 then r15 else r9) then fX12_listen_J74 n s x1 w26.2.1 w26.2.2 (if r9 < r15 then r15 else r9) w26.1 else fX12_listen_J74 n s x1 w26.2.1 w26.2.2 (if r9 < r15 then r15 else r9) w26.2.2))))
theorem tX12_listen_B26 {n : Nat} {c : Nat × Nat} {s : zs} {x1 : Int32} {w26 : Int32 × Int32 × Int32} {o : _} {v : Option Value} {S' : zi_S} (h : fX12_listen_B26 n s x1 w26 = some o) (hn : ∀ w26, o = Sum.inl w26 → zr kX12_listen 1 3 26 [some (.ref 161), some (.int x1), some (.int w26.1), some (.int w26.2.1), some (.int w26.2.2), none] [] (zS c s) v S') (hx : ∀ z, o = Sum.inr z → (fun z => zr kX12_listen 1 3 88 [some (.ref 161), none, some (.int z.1), some (.int z.2), none, none] [] (zS c s) v S') z) : zr kX12_listen 1 3 26 [some (.ref 161), some (.int x1), some (.int w26.1), some (.int w26.2.1), some (.int w26.2.2), none] [] (zS c s) v S' := by
  unfold fX12_listen_B26 at h
  refine zr_many 2 (pc' := 30) (L' := [some (.ref 161), some (.int x1), some (.int w26.1), some (.int w26.2.1), some (.int w26.2.2), none]) (st' := [.int (26 : Int32), .int w26.2.2]) (S1 := zS c s) rfl ?_
  refine zq_if2 (b := (26 : Int32) ≤ w26.2.2) rfl Iff.rfl rfl (fun g5 => ?_) (fun g5 => ?_)
  · rw [if_pos g5] at h
    obtain rfl := Option.some.inj h
    exact zr_wk [some (.ref 161), none, some (.int w26.1), some (.int w26.2.1), none, none] ⟨rfl, rfl, rfl, trivial⟩ (hx (w26.1, w26.2.1) rfl)
  · rw [if_neg g5] at h
    refine zr_many 3 (pc' := 37) (L' := [some (.ref 161), some (.int x1), some (.int w26.1), some (.int w26.2.1), some (.int w26.2.2), none]) (st' := [.int w26.2.2, .ref 161, .int x1]) (S1 := zS c s) rfl ?_
    obtain ⟨r6, g8, h⟩ := zp_inv h
    refine zq_call1 rfl rfl (zh_161 _) rfl rfl rfl ((tX12_singersOf g8).up (by decide)) rfl ?_
    refine zr_many 1 (pc' := 41) (L' := [some (.ref 161), some (.int x1), some (.int w26.1), some (.int w26.2.1), some (.int w26.2.2), none]) (st' := [.int (x1 &&& r6)]) (S1 := zS c s) rfl ?_
    obtain ⟨r9, g11, h⟩ := zp_inv h
    refine zq_scall1 rfl (by decide) rfl rfl ((tJ6_bitCount_0f7a4 g11).up (by decide)) rfl ?_
    refine zr_many 3 (pc' := 48) (L' := [some (.ref 161), some (.int x1), some (.int w26.1), some (.int w26.2.1), some (.int w26.2.2), none]) (st' := [.int w26.2.2, .ref 161, .int x1, .int r9]) (S1 := zS c s) rfl ?_
    obtain ⟨r12, g14, h⟩ := zp_inv h
    refine zq_call1 rfl rfl (zh_161 _) rfl rfl rfl ((tX12_singersOf g14).up (by decide)) rfl ?_
    refine zr_many 3 (pc' := 54) (L' := [some (.ref 161), some (.int x1), some (.int w26.1), some (.int w26.2.1), some (.int w26.2.2), none]) (st' := [.int (x1 &&& (r12 ^^^ (-1 : Int32))), .int r9]) (S1 := zS c s) rfl ?_
    obtain ⟨r15, g17, h⟩ := zp_inv h
    refine zq_scall1 rfl (by decide) rfl rfl ((tJ6_bitCount_0f7a4 g17).up (by decide)) rfl ?_
    refine zr_many 4 (pc' := 65) (L' := [some (.ref 161), some (.int x1), some (.int w26.1), some (.int w26.2.1), some (.int w26.2.2), some (.int (if r9 < r15 then r15 else r9))]) (st' := [.int w26.2.1, .int (if r9 < r15 then r15 else r9)]) (S1 := zS c s) rfl ?_
    refine zq_if2 (b := w26.2.1 ≤ (if r9 < r15 then r15 else r9)) rfl Iff.rfl rfl (fun g18 => ?_) (fun g18 => ?_)
    · rw [if_pos g18] at h
      refine zr_many 1 (pc' := 74) (L' := [some (.ref 161), some (.int x1), some (.int w26.1), some (.int w26.2.1), some (.int w26.2.2), some (.int (if r9 < r15 then r15 else r9))]) (st' := [.int w26.1]) (S1 := zS c s) rfl ?_
      exact zr_wk [some (.ref 161), some (.int x1), none, some (.int w26.2.1), some (.int w26.2.2), some (.int (if r9 < r15 then r15 else r9))] ⟨rfl, rfl, rfl, rfl, rfl, trivial⟩ (tX12_listen_J74 h hn hx)
    · rw [if_neg g18] at h
      refine zr_many 2 (pc' := 74) (L' := [some (.ref 161), some (.int x1), some (.int w26.1), some (.int w26.2.1), some (.int w26.2.2), some (.int (if r9 < r15 then r15 else r9))]) (st' := [.int w26.2.2]) (S1 := zS c s) rfl ?_
      exact zr_wk [some (.ref 161), some (.int x1), none, some (.int w26.2.1), some (.int w26.2.2), some (.int (if r9 < r15 then r15 else r9))] ⟨rfl, rfl, rfl, rfl, rfl, trivial⟩ (tX12_listen_J74 h hn hx)
def fX12_listen (n : Nat) (s : zs) : Option (Int32 × zs) := zp (fX12_fitting n (zsi s 161 0 (0 : Int32))) (fun r1 => if ¬ r1 = 0 then zp (zl (fX12_listen_B26 n (zsi s 161 0 (0 : Int32)) r1) n ((-1 : Int32), (1000000 : Int32), (0 : Int32))) (fun w19 => zt (zsi s 161 0 (0 : Int32)) (fun s20 => zp (fX12_enters n (zsi s20 161 1 (0 : Int32)) w19.2.toInt64) (fun s23 => some (w19.1, s23)))) else some ((-2 : Int32), (zsi s 161 0 (0 : Int32))))
theorem tX12_listen {n : Nat} {c : Nat × Nat} {s : zs} {r : Int32} {s' : zs} (h : fX12_listen n s = some (r, s')) : zc 4 2499 [.ref 161] (zS c s) (some (.int r)) (zS c s') := by
  refine zc_of (k := kX12_listen) (rt := 1) (L := [some (.ref 161), none, none, none, none, none]) zm_2499.1 rfl rfl (by decide) rfl rfl ?_
  unfold fX12_listen at h
  refine zr_many 2 (pc' := 2) (L' := [some (.ref 161), none, none, none, none, none]) (st' := [.int (0 : Int32), .ref 161]) (S1 := zS c s) rfl ?_
  refine zq_put (s' := (zsi s 161 0 (0 : Int32))) rfl (zh_161 _) rfl rfl rfl rfl zsi_ne rfl ?_
  refine zr_many 1 (pc' := 6) (L' := [some (.ref 161), none, none, none, none, none]) (st' := [.ref 161]) (S1 := zS c (zsi s 161 0 (0 : Int32))) rfl ?_
  obtain ⟨r1, g3, h⟩ := zp_inv h
  refine zq_call1 rfl rfl (zh_161 _) rfl rfl rfl (tX12_fitting g3) rfl ?_
  refine zr_many 2 (pc' := 11) (L' := [some (.ref 161), some (.int r1), none, none, none, none]) (st' := [.int r1]) (S1 := zS c (zsi s 161 0 (0 : Int32))) rfl ?_
  refine zq_if1 (b := ¬ r1 = 0) rfl Iff.rfl rfl (fun g4 => ?_) (fun g4 => ?_)
  · rw [if_pos g4] at h
    refine zr_many 6 (pc' := 26) (L' := [some (.ref 161), some (.int r1), some (.int (-1 : Int32)), some (.int (1000000 : Int32)), some (.int (0 : Int32)), none]) (st' := []) (S1 := zS c (zsi s 161 0 (0 : Int32))) rfl ?_
    obtain ⟨w19, g25, h⟩ := zp_inv h
    refine zr_wk [some (.ref 161), some (.int r1), some (.int (-1 : Int32)), some (.int (1000000 : Int32)), some (.int (0 : Int32)), none] ⟨rfl, rfl, rfl, rfl, rfl, trivial⟩ (zl_cert (Z := fun w26 => zr kX12_listen 1 3 26 [some (.ref 161), some (.int r1), some (.int w26.1), some (.int w26.2.1), some (.int w26.2.2), none] [] (zS c (zsi s 161 0 (0 : Int32))) _ _) (Y := (fun z => zr kX12_listen 1 3 88 [some (.ref 161), none, some (.int z.1), some (.int z.2), none, none] [] (zS c (zsi s 161 0 (0 : Int32))) _ _)) (fun w o h1 h2 h3 => tX12_listen_B26 h1 h2 h3) n _ _ g25 ?_)
    show zr kX12_listen 1 3 88 [some (.ref 161), none, some (.int w19.1), some (.int w19.2), none, none] [] (zS c (zsi s 161 0 (0 : Int32))) _ _
    refine zr_many 2 (pc' := 90) (L' := [some (.ref 161), none, some (.int w19.1), some (.int w19.2), none, none]) (st' := [.int (0 : Int32), .ref 161]) (S1 := zS c (zsi s 161 0 (0 : Int32))) rfl ?_
    obtain ⟨s20, e21, h⟩ := zt_in h
    rw [← e21]
    refine zq_put (s' := (zsi s20 161 1 (0 : Int32))) rfl (zh_161 _) rfl rfl rfl rfl zsi_ne rfl ?_
    refine zr_many 3 (pc' := 96) (L' := [some (.ref 161), none, some (.int w19.1), some (.int w19.2), none, none]) (st' := [.long w19.2.toInt64, .ref 161]) (S1 := zS c (zsi s20 161 1 (0 : Int32))) rfl ?_
    obtain ⟨s23, g24, h⟩ := zp_inv h
    refine zq_call0 rfl rfl (zh_161 _) rfl rfl rfl ((tX12_enters g24).up (by decide)) rfl ?_
    refine zr_many 1 (pc' := 100) (L' := [some (.ref 161), none, some (.int w19.1), some (.int w19.2), none, none]) (st' := [.int w19.1]) (S1 := zS c s23) rfl ?_
    obtain ⟨rfl, rfl⟩ := Prod.mk.inj (Option.some.inj h)
    exact zq_iret rfl
  · rw [if_neg g4] at h
    refine zr_many 1 (pc' := 16) (L' := [some (.ref 161), some (.int r1), none, none, none, none]) (st' := [.int (-2 : Int32)]) (S1 := zS c (zsi s 161 0 (0 : Int32))) rfl ?_
    obtain ⟨rfl, rfl⟩ := Prod.mk.inj (Option.some.inj h)
    exact zq_iret rfl
def fX12_isParted_J98 (n : Nat) (s : zs) (x1 : Int32) (x2 : Int32) (x4 : Int32) (x6 : Int32) (y0 : Int32) (y1 : Int32) : Option ((Int32 × Int32) ⊕ (Int32)) := some (Sum.inl ((y0 &&& y1), (x6 + (1 : Int32))))
theorem tX12_isParted_J98 {n : Nat} {c : Nat × Nat} {s : zs} {x1 : Int32} {x2 : Int32} {x4 : Int32} {x6 : Int32} {y0 : Int32} {y1 : Int32} {o : _} {v : Option Value} {S' : zi_S} (h : fX12_isParted_J98 n s x1 x2 x4 x6 y0 y1 = some o) (hn : ∀ w44, o = Sum.inl w44 → zr kX12_isParted 2 2 44 [some (.ref 161), some (.int x1), some (.int x2), none, some (.int x4), some (.int w44.1), some (.int w44.2), none] [] (zS c s) v S') (hx : ∀ z, o = Sum.inr z → (fun z => zr kX12_isParted 2 2 107 [some (.ref 161), some (.int x1), some (.int x2), none, some (.int x4), some (.int z), none, none] [] (zS c s) v S') z) : zr kX12_isParted 2 2 98 [some (.ref 161), some (.int x1), some (.int x2), none, some (.int x4), none, some (.int x6), none] [.int y1, .int y0] (zS c s) v S' := by
  unfold fX12_isParted_J98 at h
  refine zr_many 4 (pc' := 44) (L' := [some (.ref 161), some (.int x1), some (.int x2), none, some (.int x4), some (.int (y0 &&& y1)), some (.int (x6 + (1 : Int32))), none]) (st' := []) (S1 := zS c s) rfl ?_
  obtain rfl := Option.some.inj h
  exact zr_wk [some (.ref 161), some (.int x1), some (.int x2), none, some (.int x4), some (.int (y0 &&& y1)), some (.int (x6 + (1 : Int32))), none] ⟨rfl, rfl, rfl, rfl, rfl, rfl, trivial⟩ (hn ((y0 &&& y1), (x6 + (1 : Int32))) rfl)
def fX12_isParted_B44 (n : Nat) (s : zs) (x1 : Int32) (x2 : Int32) (x4 : Int32) (w44 : Int32 × Int32) : Option ((Int32 × Int32) ⊕ (Int32)) := if (26 : Int32) ≤ w44.2 then some (Sum.inr w44.1) else if w44.1 = 0 then some (Sum.inr w44.1) else zp (fX12_singersOf n s w44.2) (fun r9 => zp (fX12_has n s x2 w44.2) (fun r12 => if ¬ r12 = 0 then zp (fX12_has n s r9 x4) (fun r16 => if r16 = 0 then fX12_isParted_J98 n s x1 x2 x4 w44.2 w44.1 (r9 ^^^ (-1 : Int32)) else fX12_isParted_J98 n s x1 x2 x4 w44.2 w44.1 r9) else fX12_isParted_J98 n s x1 x2 x4 w44.2 w44.1 (-1 : Int32)))
theorem tX12_isParted_B44 {n : Nat} {c : Nat × Nat} {s : zs} {x1 : Int32} {x2 : Int32} {x4 : Int32} {w44 : Int32 × Int32} {o : _} {v : Option Value} {S' : zi_S} (h : fX12_isParted_B44 n s x1 x2 x4 w44 = some o) (hn : ∀ w44, o = Sum.inl w44 → zr kX12_isParted 2 2 44 [some (.ref 161), some (.int x1), some (.int x2), none, some (.int x4), some (.int w44.1), some (.int w44.2), none] [] (zS c s) v S') (hx : ∀ z, o = Sum.inr z → (fun z => zr kX12_isParted 2 2 107 [some (.ref 161), some (.int x1), some (.int x2), none, some (.int x4), some (.int z), none, none] [] (zS c s) v S') z) : zr kX12_isParted 2 2 44 [some (.ref 161), some (.int x1), some (.int x2), none, some (.int x4), some (.int w44.1), some (.int w44.2), none] [] (zS c s) v S' := by
  unfold fX12_isParted_B44 at h
  refine zr_many 2 (pc' := 48) (L' := [some (.ref 161), some (.int x1), some (.int x2), none, some (.int x4), some (.int w44.1), some (.int w44.2), none]) (st' := [.int (26 : Int32), .int w44.2]) (S1 := zS c s) rfl ?_
  refine zq_if2 (b := (26 : Int32) ≤ w44.2) rfl Iff.rfl rfl (fun g7 => ?_) (fun g7 => ?_)
  · rw [if_pos g7] at h
    obtain rfl := Option.some.inj h
    exact zr_wk [some (.ref 161), some (.int x1), some (.int x2), none, some (.int x4), some (.int w44.1), none, none] ⟨rfl, rfl, rfl, rfl, rfl, trivial⟩ (hx w44.1 rfl)
  · rw [if_neg g7] at h
    refine zr_many 1 (pc' := 53) (L' := [some (.ref 161), some (.int x1), some (.int x2), none, some (.int x4), some (.int w44.1), some (.int w44.2), none]) (st' := [.int w44.1]) (S1 := zS c s) rfl ?_
    refine zq_if1 (b := w44.1 = 0) rfl Iff.rfl rfl (fun g8 => ?_) (fun g8 => ?_)
    · rw [if_pos g8] at h
      obtain rfl := Option.some.inj h
      exact zr_wk [some (.ref 161), some (.int x1), some (.int x2), none, some (.int x4), some (.int w44.1), none, none] ⟨rfl, rfl, rfl, rfl, rfl, trivial⟩ (hx w44.1 rfl)
    · rw [if_neg g8] at h
      refine zr_many 2 (pc' := 59) (L' := [some (.ref 161), some (.int x1), some (.int x2), none, some (.int x4), some (.int w44.1), some (.int w44.2), none]) (st' := [.int w44.2, .ref 161]) (S1 := zS c s) rfl ?_
      obtain ⟨r9, g11, h⟩ := zp_inv h
      refine zq_call1 rfl rfl (zh_161 _) rfl rfl rfl (tX12_singersOf g11) rfl ?_
      refine zr_many 4 (pc' := 69) (L' := [some (.ref 161), some (.int x1), some (.int x2), none, some (.int x4), some (.int w44.1), some (.int w44.2), some (.int r9)]) (st' := [.int w44.2, .int x2, .int w44.1]) (S1 := zS c s) rfl ?_
      obtain ⟨r12, g14, h⟩ := zp_inv h
      refine zq_scall1 rfl (by decide) rfl rfl ((tX12_has g14).up (by decide)) rfl ?_
      refine zq_if1 (b := ¬ r12 = 0) rfl Iff.rfl rfl (fun g15 => ?_) (fun g15 => ?_)
      · rw [if_pos g15] at h
        refine zr_many 2 (pc' := 83) (L' := [some (.ref 161), some (.int x1), some (.int x2), none, some (.int x4), some (.int w44.1), some (.int w44.2), some (.int r9)]) (st' := [.int x4, .int r9, .int w44.1]) (S1 := zS c s) rfl ?_
        obtain ⟨r16, g18, h⟩ := zp_inv h
        refine zq_scall1 rfl (by decide) rfl rfl ((tX12_has g18).up (by decide)) rfl ?_
        refine zq_if1 (b := r16 = 0) rfl Iff.rfl rfl (fun g19 => ?_) (fun g19 => ?_)
        · rw [if_pos g19] at h
          refine zr_many 3 (pc' := 98) (L' := [some (.ref 161), some (.int x1), some (.int x2), none, some (.int x4), some (.int w44.1), some (.int w44.2), some (.int r9)]) (st' := [.int (r9 ^^^ (-1 : Int32)), .int w44.1]) (S1 := zS c s) rfl ?_
          exact zr_wk [some (.ref 161), some (.int x1), some (.int x2), none, some (.int x4), none, some (.int w44.2), none] ⟨rfl, rfl, rfl, rfl, rfl, trivial⟩ (tX12_isParted_J98 h hn hx)
        · rw [if_neg g19] at h
          refine zr_many 2 (pc' := 98) (L' := [some (.ref 161), some (.int x1), some (.int x2), none, some (.int x4), some (.int w44.1), some (.int w44.2), some (.int r9)]) (st' := [.int r9, .int w44.1]) (S1 := zS c s) rfl ?_
          exact zr_wk [some (.ref 161), some (.int x1), some (.int x2), none, some (.int x4), none, some (.int w44.2), none] ⟨rfl, rfl, rfl, rfl, rfl, trivial⟩ (tX12_isParted_J98 h hn hx)
      · rw [if_neg g15] at h
        refine zr_many 2 (pc' := 98) (L' := [some (.ref 161), some (.int x1), some (.int x2), none, some (.int x4), some (.int w44.1), some (.int w44.2), some (.int r9)]) (st' := [.int (-1 : Int32), .int w44.1]) (S1 := zS c s) rfl ?_
        exact zr_wk [some (.ref 161), some (.int x1), some (.int x2), none, some (.int x4), none, some (.int w44.2), none] ⟨rfl, rfl, rfl, rfl, rfl, trivial⟩ (tX12_isParted_J98 h hn hx)
def fX12_isParted_J117 (n : Nat) (s : zs) (x1 : Int32) (x2 : Int32) (x4 : Int32) (y0 : Int32) : Option ((Int32 × Int32) ⊕ (Int32)) := some (Sum.inl (y0, (x4 + (1 : Int32))))
theorem tX12_isParted_J117 {n : Nat} {c : Nat × Nat} {s : zs} {x1 : Int32} {x2 : Int32} {x4 : Int32} {y0 : Int32} {o : _} {v : Option Value} {S' : zi_S} (h : fX12_isParted_J117 n s x1 x2 x4 y0 = some o) (hn : ∀ w5, o = Sum.inl w5 → zr kX12_isParted 2 2 5 [some (.ref 161), some (.int x1), some (.int x2), some (.int w5.1), some (.int w5.2), none, none, none] [] (zS c s) v S') (hx : ∀ z, o = Sum.inr z → (fun z => zr kX12_isParted 2 2 124 [none, none, none, some (.int z), none, none, none, none] [] (zS c s) v S') z) : zr kX12_isParted 2 2 117 [some (.ref 161), some (.int x1), some (.int x2), none, some (.int x4), none, none, none] [.int y0] (zS c s) v S' := by
  unfold fX12_isParted_J117 at h
  refine zr_many 3 (pc' := 5) (L' := [some (.ref 161), some (.int x1), some (.int x2), some (.int y0), some (.int (x4 + (1 : Int32))), none, none, none]) (st' := []) (S1 := zS c s) rfl ?_
  obtain rfl := Option.some.inj h
  exact zr_wk [some (.ref 161), some (.int x1), some (.int x2), some (.int y0), some (.int (x4 + (1 : Int32))), none, none, none] ⟨rfl, rfl, rfl, rfl, rfl, trivial⟩ (hn (y0, (x4 + (1 : Int32))) rfl)
def fX12_isParted_J107 (n : Nat) (s : zs) (x1 : Int32) (x2 : Int32) (x4 : Int32) (x5 : Int32) : Option ((Int32 × Int32) ⊕ (Int32)) := if ¬ x5 = 0 then fX12_isParted_J117 n s x1 x2 x4 (0 : Int32) else fX12_isParted_J117 n s x1 x2 x4 (1 : Int32)
theorem tX12_isParted_J107 {n : Nat} {c : Nat × Nat} {s : zs} {x1 : Int32} {x2 : Int32} {x4 : Int32} {x5 : Int32} {o : _} {v : Option Value} {S' : zi_S} (h : fX12_isParted_J107 n s x1 x2 x4 x5 = some o) (hn : ∀ w5, o = Sum.inl w5 → zr kX12_isParted 2 2 5 [some (.ref 161), some (.int x1), some (.int x2), some (.int w5.1), some (.int w5.2), none, none, none] [] (zS c s) v S') (hx : ∀ z, o = Sum.inr z → (fun z => zr kX12_isParted 2 2 124 [none, none, none, some (.int z), none, none, none, none] [] (zS c s) v S') z) : zr kX12_isParted 2 2 107 [some (.ref 161), some (.int x1), some (.int x2), none, some (.int x4), some (.int x5), none, none] [] (zS c s) v S' := by
  unfold fX12_isParted_J107 at h
  refine zr_many 1 (pc' := 109) (L' := [some (.ref 161), some (.int x1), some (.int x2), none, some (.int x4), some (.int x5), none, none]) (st' := [.int x5]) (S1 := zS c s) rfl ?_
  refine zq_if1 (b := ¬ x5 = 0) rfl Iff.rfl rfl (fun g21 => ?_) (fun g21 => ?_)
  · rw [if_pos g21] at h
    refine zr_many 1 (pc' := 117) (L' := [some (.ref 161), some (.int x1), some (.int x2), none, some (.int x4), some (.int x5), none, none]) (st' := [.int (0 : Int32)]) (S1 := zS c s) rfl ?_
    exact zr_wk [some (.ref 161), some (.int x1), some (.int x2), none, some (.int x4), none, none, none] ⟨rfl, rfl, rfl, rfl, trivial⟩ (tX12_isParted_J117 h hn hx)
  · rw [if_neg g21] at h
    refine zr_many 2 (pc' := 117) (L' := [some (.ref 161), some (.int x1), some (.int x2), none, some (.int x4), some (.int x5), none, none]) (st' := [.int (1 : Int32)]) (S1 := zS c s) rfl ?_
    exact zr_wk [some (.ref 161), some (.int x1), some (.int x2), none, some (.int x4), none, none, none] ⟨rfl, rfl, rfl, rfl, trivial⟩ (tX12_isParted_J117 h hn hx)
def fX12_isParted_J39 (n : Nat) (s : zs) (x1 : Int32) (x2 : Int32) (x4 : Int32) (y0 : Int32) : Option ((Int32 × Int32) ⊕ (Int32)) := zp (zl (fX12_isParted_B44 n s x1 x2 x4) n (y0, (0 : Int32))) (fun w20 => fX12_isParted_J107 n s x1 x2 x4 w20)
theorem tX12_isParted_J39 {n : Nat} {c : Nat × Nat} {s : zs} {x1 : Int32} {x2 : Int32} {x4 : Int32} {y0 : Int32} {o : _} {v : Option Value} {S' : zi_S} (h : fX12_isParted_J39 n s x1 x2 x4 y0 = some o) (hn : ∀ w5, o = Sum.inl w5 → zr kX12_isParted 2 2 5 [some (.ref 161), some (.int x1), some (.int x2), some (.int w5.1), some (.int w5.2), none, none, none] [] (zS c s) v S') (hx : ∀ z, o = Sum.inr z → (fun z => zr kX12_isParted 2 2 124 [none, none, none, some (.int z), none, none, none, none] [] (zS c s) v S') z) : zr kX12_isParted 2 2 39 [some (.ref 161), some (.int x1), some (.int x2), none, some (.int x4), none, none, none] [.int y0] (zS c s) v S' := by
  unfold fX12_isParted_J39 at h
  refine zr_many 3 (pc' := 44) (L' := [some (.ref 161), some (.int x1), some (.int x2), none, some (.int x4), some (.int y0), some (.int (0 : Int32)), none]) (st' := []) (S1 := zS c s) rfl ?_
  obtain ⟨w20, g22, h⟩ := zp_inv h
  refine zr_wk [some (.ref 161), some (.int x1), some (.int x2), none, some (.int x4), some (.int y0), some (.int (0 : Int32)), none] ⟨rfl, rfl, rfl, rfl, rfl, rfl, trivial⟩ (zl_cert (Z := fun w44 => zr kX12_isParted 2 2 44 [some (.ref 161), some (.int x1), some (.int x2), none, some (.int x4), some (.int w44.1), some (.int w44.2), none] [] (zS c s) _ _) (Y := (fun z => zr kX12_isParted 2 2 107 [some (.ref 161), some (.int x1), some (.int x2), none, some (.int x4), some (.int z), none, none] [] (zS c s) _ _)) (fun w o h1 h2 h3 => tX12_isParted_B44 h1 h2 h3) n _ _ g22 ?_)
  show zr kX12_isParted 2 2 107 [some (.ref 161), some (.int x1), some (.int x2), none, some (.int x4), some (.int w20), none, none] [] (zS c s) _ _
  exact zr_wk [some (.ref 161), some (.int x1), some (.int x2), none, some (.int x4), some (.int w20), none, none] ⟨rfl, rfl, rfl, rfl, rfl, trivial⟩ (tX12_isParted_J107 h hn hx)
def fX12_isParted_B5 (n : Nat) (s : zs) (x1 : Int32) (x2 : Int32) (w5 : Int32 × Int32) : Option ((Int32 × Int32) ⊕ (Int32)) := if (s.1 161 4) ≤ w5.2 then some (Sum.inr w5.1) else if w5.1 = 0 then some (Sum.inr w5.1) else zp (fX12_has n s x1 w5.2) (fun r3 => if r3 = 0 then fX12_isParted_J39 n s x1 x2 w5.2 (0 : Int32) else fX12_isParted_J39 n s x1 x2 w5.2 (x1 &&& (((1 : Int32) <<< (w5.2 &&& 31)) ^^^ (-1 : Int32))))
theorem tX12_isParted_B5 {n : Nat} {c : Nat × Nat} {s : zs} {x1 : Int32} {x2 : Int32} {w5 : Int32 × Int32} {o : _} {v : Option Value} {S' : zi_S} (h : fX12_isParted_B5 n s x1 x2 w5 = some o) (hn : ∀ w5, o = Sum.inl w5 → zr kX12_isParted 2 2 5 [some (.ref 161), some (.int x1), some (.int x2), some (.int w5.1), some (.int w5.2), none, none, none] [] (zS c s) v S') (hx : ∀ z, o = Sum.inr z → (fun z => zr kX12_isParted 2 2 124 [none, none, none, some (.int z), none, none, none, none] [] (zS c s) v S') z) : zr kX12_isParted 2 2 5 [some (.ref 161), some (.int x1), some (.int x2), some (.int w5.1), some (.int w5.2), none, none, none] [] (zS c s) v S' := by
  unfold fX12_isParted_B5 at h
  refine zr_many 2 (pc' := 8) (L' := [some (.ref 161), some (.int x1), some (.int x2), some (.int w5.1), some (.int w5.2), none, none, none]) (st' := [.ref 161, .int w5.2]) (S1 := zS c s) rfl ?_
  refine zq_get rfl (zh_161 _) rfl rfl rfl ?_
  refine zq_if2 (b := (s.1 161 4) ≤ w5.2) rfl Iff.rfl rfl (fun g1 => ?_) (fun g1 => ?_)
  · rw [if_pos g1] at h
    obtain rfl := Option.some.inj h
    exact zr_wk [none, none, none, some (.int w5.1), none, none, none, none] ⟨rfl, trivial⟩ (hx w5.1 rfl)
  · rw [if_neg g1] at h
    refine zr_many 1 (pc' := 15) (L' := [some (.ref 161), some (.int x1), some (.int x2), some (.int w5.1), some (.int w5.2), none, none, none]) (st' := [.int w5.1]) (S1 := zS c s) rfl ?_
    refine zq_if1 (b := w5.1 = 0) rfl Iff.rfl rfl (fun g2 => ?_) (fun g2 => ?_)
    · rw [if_pos g2] at h
      obtain rfl := Option.some.inj h
      exact zr_wk [none, none, none, some (.int w5.1), none, none, none, none] ⟨rfl, trivial⟩ (hx w5.1 rfl)
    · rw [if_neg g2] at h
      refine zr_many 2 (pc' := 21) (L' := [some (.ref 161), some (.int x1), some (.int x2), some (.int w5.1), some (.int w5.2), none, none, none]) (st' := [.int w5.2, .int x1]) (S1 := zS c s) rfl ?_
      obtain ⟨r3, g5, h⟩ := zp_inv h
      refine zq_scall1 rfl (by decide) rfl rfl ((tX12_has g5).up (by decide)) rfl ?_
      refine zq_if1 (b := r3 = 0) rfl Iff.rfl rfl (fun g6 => ?_) (fun g6 => ?_)
      · rw [if_pos g6] at h
        refine zr_many 1 (pc' := 39) (L' := [some (.ref 161), some (.int x1), some (.int x2), some (.int w5.1), some (.int w5.2), none, none, none]) (st' := [.int (0 : Int32)]) (S1 := zS c s) rfl ?_
        exact zr_wk [some (.ref 161), some (.int x1), some (.int x2), none, some (.int w5.2), none, none, none] ⟨rfl, rfl, rfl, rfl, trivial⟩ (tX12_isParted_J39 h hn hx)
      · rw [if_neg g6] at h
        refine zr_many 8 (pc' := 39) (L' := [some (.ref 161), some (.int x1), some (.int x2), some (.int w5.1), some (.int w5.2), none, none, none]) (st' := [.int (x1 &&& (((1 : Int32) <<< (w5.2 &&& 31)) ^^^ (-1 : Int32)))]) (S1 := zS c s) rfl ?_
        exact zr_wk [some (.ref 161), some (.int x1), some (.int x2), none, some (.int w5.2), none, none, none] ⟨rfl, rfl, rfl, rfl, trivial⟩ (tX12_isParted_J39 h hn hx)
def fX12_isParted_J124 (n : Nat) (s : zs) (x3 : Int32) : Option Int32 := if x3 = 0 ∨ x3 = 1 then some x3 else none
theorem tX12_isParted_J124 {n : Nat} {c : Nat × Nat} {s : zs} {x3 : Int32} {r : Int32} (h : fX12_isParted_J124 n s x3 = some r) : zr kX12_isParted 2 2 124 [none, none, none, some (.int x3), none, none, none, none] [] (zS c s) (some (.int r)) (zS c s) := by
  unfold fX12_isParted_J124 at h
  refine zr_many 1 (pc' := 125) (L' := [none, none, none, some (.int x3), none, none, none, none]) (st' := [.int x3]) (S1 := zS c s) rfl ?_
  obtain ⟨gz, h⟩ := zt_inv h
  obtain rfl := Option.some.inj h
  exact zq_zret rfl gz
def fX12_isParted (n : Nat) (s : zs) (x1 : Int32) (x2 : Int32) : Option Int32 := zp (zl (fX12_isParted_B5 n s x1 x2) n ((1 : Int32), (0 : Int32))) (fun w23 => fX12_isParted_J124 n s w23)
theorem tX12_isParted {n : Nat} {c : Nat × Nat} {s : zs} {x1 : Int32} {x2 : Int32} {r : Int32} (h : fX12_isParted n s x1 x2 = some r) : zc 3 2500 [.ref 161, .int x1, .int x2] (zS c s) (some (.int r)) (zS c s) := by
  refine zc_of (k := kX12_isParted) (rt := 2) (L := [some (.ref 161), some (.int x1), some (.int x2), none, none, none, none, none]) zm_2500.1 rfl rfl (by decide) rfl rfl ?_
  unfold fX12_isParted at h
  refine zr_many 4 (pc' := 5) (L' := [some (.ref 161), some (.int x1), some (.int x2), some (.int (1 : Int32)), some (.int (0 : Int32)), none, none, none]) (st' := []) (S1 := zS c s) rfl ?_
  obtain ⟨w23, g24, h⟩ := zp_inv h
  refine zr_wk [some (.ref 161), some (.int x1), some (.int x2), some (.int (1 : Int32)), some (.int (0 : Int32)), none, none, none] ⟨rfl, rfl, rfl, rfl, rfl, trivial⟩ (zl_cert (Z := fun w5 => zr kX12_isParted 2 2 5 [some (.ref 161), some (.int x1), some (.int x2), some (.int w5.1), some (.int w5.2), none, none, none] [] (zS c s) _ _) (Y := (fun z => zr kX12_isParted 2 2 124 [none, none, none, some (.int z), none, none, none, none] [] (zS c s) _ _)) (fun w o h1 h2 h3 => tX12_isParted_B5 h1 h2 h3) n _ _ g24 ?_)
  show zr kX12_isParted 2 2 124 [none, none, none, some (.int w23), none, none, none, none] [] (zS c s) _ _
  exact zr_wk [none, none, none, some (.int w23), none, none, none, none] ⟨rfl, trivial⟩ (tX12_isParted_J124 h)
def fX12_partsBy_B27 (n : Nat) (rc0 : zs → Int32 → Int32 → Int32 → Int32 → Option Int32) (s : zs) (x1 : Int32) (x2 : Int32) (x3 : Int32) (x4 : Int32) (w27 : Int32 × Int32) : Option ((Int32 × Int32) ⊕ (Int32)) := if x4 ≤ w27.2 then some (Sum.inr w27.1) else if 0 ≤ w27.1 then some (Sum.inr w27.1) else zp (rc0 s x1 (x2 ||| ((1 : Int32) <<< (w27.2 &&& 31))) (x3 - (1 : Int32)) w27.2) (fun r4 => some (Sum.inl (r4, (w27.2 + (1 : Int32)))))
theorem tX12_partsBy_B27 {n : Nat} {rc0 : zs → Int32 → Int32 → Int32 → Int32 → Option Int32} {d : Nat} (hd : 3 ≤ d) (hrc0 : ∀ {c : Nat × Nat} {s : zs} {a1 : Int32} {a2 : Int32} {a3 : Int32} {a4 : Int32} {r : Int32}, rc0 s a1 a2 a3 a4 = some r → zc d 2501 [.ref 161, .int a1, .int a2, .int a3, .int a4] (zS c s) (some (.int r)) (zS c s)) {c : Nat × Nat} {s : zs} {x1 : Int32} {x2 : Int32} {x3 : Int32} {x4 : Int32} {w27 : Int32 × Int32} {o : _} {v : Option Value} {S' : zi_S} (h : fX12_partsBy_B27 n rc0 s x1 x2 x3 x4 w27 = some o) (hn : ∀ w27, o = Sum.inl w27 → zr kX12_partsBy 1 d 27 [some (.ref 161), some (.int x1), some (.int x2), some (.int x3), some (.int x4), some (.int w27.1), some (.int w27.2)] [] (zS c s) v S') (hx : ∀ z, o = Sum.inr z → (fun z => zr kX12_partsBy 1 d 63 [none, none, none, none, none, some (.int z), none] [] (zS c s) v S') z) : zr kX12_partsBy 1 d 27 [some (.ref 161), some (.int x1), some (.int x2), some (.int x3), some (.int x4), some (.int w27.1), some (.int w27.2)] [] (zS c s) v S' := by
  unfold fX12_partsBy_B27 at h
  refine zr_many 2 (pc' := 31) (L' := [some (.ref 161), some (.int x1), some (.int x2), some (.int x3), some (.int x4), some (.int w27.1), some (.int w27.2)]) (st' := [.int x4, .int w27.2]) (S1 := zS c s) rfl ?_
  refine zq_if2 (b := x4 ≤ w27.2) rfl Iff.rfl rfl (fun g2 => ?_) (fun g2 => ?_)
  · rw [if_pos g2] at h
    obtain rfl := Option.some.inj h
    exact zr_wk [none, none, none, none, none, some (.int w27.1), none] ⟨rfl, trivial⟩ (hx w27.1 rfl)
  · rw [if_neg g2] at h
    refine zr_many 1 (pc' := 36) (L' := [some (.ref 161), some (.int x1), some (.int x2), some (.int x3), some (.int x4), some (.int w27.1), some (.int w27.2)]) (st' := [.int w27.1]) (S1 := zS c s) rfl ?_
    refine zq_if1 (b := 0 ≤ w27.1) rfl Iff.rfl rfl (fun g3 => ?_) (fun g3 => ?_)
    · rw [if_pos g3] at h
      obtain rfl := Option.some.inj h
      exact zr_wk [none, none, none, none, none, some (.int w27.1), none] ⟨rfl, trivial⟩ (hx w27.1 rfl)
    · rw [if_neg g3] at h
      refine zr_many 11 (pc' := 52) (L' := [some (.ref 161), some (.int x1), some (.int x2), some (.int x3), some (.int x4), some (.int w27.1), some (.int w27.2)]) (st' := [.int w27.2, .int (x3 - (1 : Int32)), .int (x2 ||| ((1 : Int32) <<< (w27.2 &&& 31))), .int x1, .ref 161]) (S1 := zS c s) rfl ?_
      obtain ⟨r4, g6, h⟩ := zp_inv h
      refine zq_call1 rfl rfl (zh_161 _) rfl rfl rfl (hrc0 g6) rfl ?_
      refine zr_many 3 (pc' := 27) (L' := [some (.ref 161), some (.int x1), some (.int x2), some (.int x3), some (.int x4), some (.int r4), some (.int (w27.2 + (1 : Int32)))]) (st' := []) (S1 := zS c s) rfl ?_
      obtain rfl := Option.some.inj h
      exact zr_wk [some (.ref 161), some (.int x1), some (.int x2), some (.int x3), some (.int x4), some (.int r4), some (.int (w27.2 + (1 : Int32)))] ⟨rfl, rfl, rfl, rfl, rfl, rfl, rfl, trivial⟩ (hn (r4, (w27.2 + (1 : Int32))) rfl)
def fX12_partsBy_J63 (n : Nat) (rc0 : zs → Int32 → Int32 → Int32 → Int32 → Option Int32) (s : zs) (x5 : Int32) : Option Int32 := some x5
theorem tX12_partsBy_J63 {n : Nat} {rc0 : zs → Int32 → Int32 → Int32 → Int32 → Option Int32} {d : Nat} (hd : 3 ≤ d) (hrc0 : ∀ {c : Nat × Nat} {s : zs} {a1 : Int32} {a2 : Int32} {a3 : Int32} {a4 : Int32} {r : Int32}, rc0 s a1 a2 a3 a4 = some r → zc d 2501 [.ref 161, .int a1, .int a2, .int a3, .int a4] (zS c s) (some (.int r)) (zS c s)) {c : Nat × Nat} {s : zs} {x5 : Int32} {r : Int32} (h : fX12_partsBy_J63 n rc0 s x5 = some r) : zr kX12_partsBy 1 d 63 [none, none, none, none, none, some (.int x5), none] [] (zS c s) (some (.int r)) (zS c s) := by
  unfold fX12_partsBy_J63 at h
  refine zr_many 1 (pc' := 65) (L' := [none, none, none, none, none, some (.int x5), none]) (st' := [.int x5]) (S1 := zS c s) rfl ?_
  obtain rfl := Option.some.inj h
  exact zq_iret rfl
def fX12_partsBy_J18 (n : Nat) (rc0 : zs → Int32 → Int32 → Int32 → Int32 → Option Int32) (s : zs) (y0 : Int32) : Option Int32 := some y0
theorem tX12_partsBy_J18 {n : Nat} {rc0 : zs → Int32 → Int32 → Int32 → Int32 → Option Int32} {d : Nat} (hd : 3 ≤ d) (hrc0 : ∀ {c : Nat × Nat} {s : zs} {a1 : Int32} {a2 : Int32} {a3 : Int32} {a4 : Int32} {r : Int32}, rc0 s a1 a2 a3 a4 = some r → zc d 2501 [.ref 161, .int a1, .int a2, .int a3, .int a4] (zS c s) (some (.int r)) (zS c s)) {c : Nat × Nat} {s : zs} {y0 : Int32} {r : Int32} (h : fX12_partsBy_J18 n rc0 s y0 = some r) : zr kX12_partsBy 1 d 18 [none, none, none, none, none, none, none] [.int y0] (zS c s) (some (.int r)) (zS c s) := by
  unfold fX12_partsBy_J18 at h
  obtain rfl := Option.some.inj h
  exact zq_iret rfl
def fX12_partsBy_M (n : Nat) (rc0 : zs → Int32 → Int32 → Int32 → Int32 → Option Int32) (s : zs) (x1 : Int32) (x2 : Int32) (x3 : Int32) (x4 : Int32) : Option Int32 := if ¬ x3 = 0 then zp (zl (fX12_partsBy_B27 n rc0 s x1 x2 x3 x4) n ((-1 : Int32), (x3 - (1 : Int32)))) (fun w7 => fX12_partsBy_J63 n rc0 s w7) else zp (fX12_isParted n s x1 x2) (fun r9 => if r9 = 0 then fX12_partsBy_J18 n rc0 s (-1 : Int32) else fX12_partsBy_J18 n rc0 s x2)
theorem tX12_partsBy_M {n : Nat} {rc0 : zs → Int32 → Int32 → Int32 → Int32 → Option Int32} {d : Nat} (hd : 3 ≤ d) (hrc0 : ∀ {c : Nat × Nat} {s : zs} {a1 : Int32} {a2 : Int32} {a3 : Int32} {a4 : Int32} {r : Int32}, rc0 s a1 a2 a3 a4 = some r → zc d 2501 [.ref 161, .int a1, .int a2, .int a3, .int a4] (zS c s) (some (.int r)) (zS c s)) {c : Nat × Nat} {s : zs} {x1 : Int32} {x2 : Int32} {x3 : Int32} {x4 : Int32} {r : Int32} (h : fX12_partsBy_M n rc0 s x1 x2 x3 x4 = some r) : zc (d + 1) 2501 [.ref 161, .int x1, .int x2, .int x3, .int x4] (zS c s) (some (.int r)) (zS c s) := by
  refine zc_of (k := kX12_partsBy) (rt := 1) (L := [some (.ref 161), some (.int x1), some (.int x2), some (.int x3), some (.int x4), none, none]) zm_2501.1 rfl rfl (by decide) rfl rfl ?_
  unfold fX12_partsBy_M at h
  refine zr_many 1 (pc' := 1) (L' := [some (.ref 161), some (.int x1), some (.int x2), some (.int x3), some (.int x4), none, none]) (st' := [.int x3]) (S1 := zS c s) rfl ?_
  refine zq_if1 (b := ¬ x3 = 0) rfl Iff.rfl rfl (fun g1 => ?_) (fun g1 => ?_)
  · rw [if_pos g1] at h
    refine zr_many 6 (pc' := 27) (L' := [some (.ref 161), some (.int x1), some (.int x2), some (.int x3), some (.int x4), some (.int (-1 : Int32)), some (.int (x3 - (1 : Int32)))]) (st' := []) (S1 := zS c s) rfl ?_
    obtain ⟨w7, g8, h⟩ := zp_inv h
    refine zr_wk [some (.ref 161), some (.int x1), some (.int x2), some (.int x3), some (.int x4), some (.int (-1 : Int32)), some (.int (x3 - (1 : Int32)))] ⟨rfl, rfl, rfl, rfl, rfl, rfl, rfl, trivial⟩ (zl_cert (Z := fun w27 => zr kX12_partsBy 1 d 27 [some (.ref 161), some (.int x1), some (.int x2), some (.int x3), some (.int x4), some (.int w27.1), some (.int w27.2)] [] (zS c s) _ _) (Y := (fun z => zr kX12_partsBy 1 d 63 [none, none, none, none, none, some (.int z), none] [] (zS c s) _ _)) (fun w o h1 h2 h3 => tX12_partsBy_B27 hd hrc0 h1 h2 h3) n _ _ g8 ?_)
    show zr kX12_partsBy 1 d 63 [none, none, none, none, none, some (.int w7), none] [] (zS c s) _ _
    exact zr_wk [none, none, none, none, none, some (.int w7), none] ⟨rfl, trivial⟩ (tX12_partsBy_J63 hd hrc0 h)
  · rw [if_neg g1] at h
    refine zr_many 3 (pc' := 7) (L' := [some (.ref 161), some (.int x1), some (.int x2), some (.int x3), some (.int x4), none, none]) (st' := [.int x2, .int x1, .ref 161]) (S1 := zS c s) rfl ?_
    obtain ⟨r9, g11, h⟩ := zp_inv h
    refine zq_call1 rfl rfl (zh_161 _) rfl rfl rfl ((tX12_isParted g11).up (by omega)) rfl ?_
    refine zq_if1 (b := r9 = 0) rfl Iff.rfl rfl (fun g12 => ?_) (fun g12 => ?_)
    · rw [if_pos g12] at h
      refine zr_many 1 (pc' := 18) (L' := [some (.ref 161), some (.int x1), some (.int x2), some (.int x3), some (.int x4), none, none]) (st' := [.int (-1 : Int32)]) (S1 := zS c s) rfl ?_
      exact zr_wk [none, none, none, none, none, none, none] trivial (tX12_partsBy_J18 hd hrc0 h)
    · rw [if_neg g12] at h
      refine zr_many 2 (pc' := 18) (L' := [some (.ref 161), some (.int x1), some (.int x2), some (.int x3), some (.int x4), none, none]) (st' := [.int x2]) (S1 := zS c s) rfl ?_
      exact zr_wk [none, none, none, none, none, none, none] trivial (tX12_partsBy_J18 hd hrc0 h)
def fX12_partsBy (n : Nat) : Nat → zs → Int32 → Int32 → Int32 → Int32 → Option Int32
  | 0 => fun _ _ _ _ _ => none
  | u + 1 => fun s a1 a2 a3 a4 => fX12_partsBy_M n (fX12_partsBy n u) s a1 a2 a3 a4
theorem tX12_partsBy_u {n : Nat} : ∀ (u : Nat) {c : Nat × Nat} {s : zs} {a1 : Int32} {a2 : Int32} {a3 : Int32} {a4 : Int32} {r : Int32}, fX12_partsBy n u s a1 a2 a3 a4 = some r → zc (3 + 1 * u) 2501 [.ref 161, .int a1, .int a2, .int a3, .int a4] (zS c s) (some (.int r)) (zS c s) := by
  intro u
  induction u with
  | zero => intros; rename_i h; cases h
  | succ u ih =>
    intro _ _ _ _ _ _ _ h
    exact (tX12_partsBy_M (d := 3 + 1 * u) (by omega) ih h).up (by omega)
theorem tX12_partsBy {n : Nat} : ∀ {c : Nat × Nat} {s : zs} {a1 : Int32} {a2 : Int32} {a3 : Int32} {a4 : Int32} {r : Int32}, fX12_partsBy n 6 s a1 a2 a3 a4 = some r → zc 9 2501 [.ref 161, .int a1, .int a2, .int a3, .int a4] (zS c s) (some (.int r)) (zS c s) := tX12_partsBy_u 6
def fX12_parts_B12 (n : Nat) (s : zs) (x1 : Int32) (w12 : Int32) : Option ((Int32) ⊕ ((Int32 × Int32) ⊕ (Unit))) := if (4 : Int32) < w12 then some (Sum.inr (Sum.inr ())) else zp (fX12_partsBy n 6 s x1 (0 : Int32) w12 (26 : Int32)) (fun r5 => if r5 < 0 then some (Sum.inl (w12 + (1 : Int32))) else some (Sum.inr (Sum.inl (w12, r5))))
theorem tX12_parts_B12 {n : Nat} {c : Nat × Nat} {s : zs} {x1 : Int32} {w12 : Int32} {o : _} {v : Option Value} {S' : zi_S} (h : fX12_parts_B12 n s x1 w12 = some o) (hn : ∀ w12, o = Sum.inl w12 → zr kX12_parts 1 9 12 [some (.ref 161), some (.int x1), some (.int w12), none] [] (zS c s) v S') (hx : ∀ z, o = Sum.inr z → (Sum.elim (fun z => zr kX12_parts 1 9 31 [some (.ref 161), none, some (.int z.1), some (.int z.2)] [] (zS c s) v S') (fun z => zr kX12_parts 1 9 50 [none, none, none, none] [] (zS c s) v S')) z) : zr kX12_parts 1 9 12 [some (.ref 161), some (.int x1), some (.int w12), none] [] (zS c s) v S' := by
  unfold fX12_parts_B12 at h
  refine zr_many 2 (pc' := 14) (L' := [some (.ref 161), some (.int x1), some (.int w12), none]) (st' := [.int (4 : Int32), .int w12]) (S1 := zS c s) rfl ?_
  refine zq_if2 (b := (4 : Int32) < w12) rfl Iff.rfl rfl (fun g4 => ?_) (fun g4 => ?_)
  · rw [if_pos g4] at h
    obtain rfl := Option.some.inj h
    exact zr_wk [none, none, none, none] trivial (hx (Sum.inr ()) rfl)
  · rw [if_neg g4] at h
    refine zr_many 5 (pc' := 23) (L' := [some (.ref 161), some (.int x1), some (.int w12), none]) (st' := [.int (26 : Int32), .int w12, .int (0 : Int32), .int x1, .ref 161]) (S1 := zS c s) rfl ?_
    obtain ⟨r5, g7, h⟩ := zp_inv h
    refine zq_call1 rfl rfl (zh_161 _) rfl rfl rfl (tX12_partsBy g7) rfl ?_
    refine zr_many 2 (pc' := 28) (L' := [some (.ref 161), some (.int x1), some (.int w12), some (.int r5)]) (st' := [.int r5]) (S1 := zS c s) rfl ?_
    refine zq_if1 (b := r5 < 0) rfl Iff.rfl rfl (fun g8 => ?_) (fun g8 => ?_)
    · rw [if_pos g8] at h
      refine zr_many 2 (pc' := 12) (L' := [some (.ref 161), some (.int x1), some (.int (w12 + (1 : Int32))), some (.int r5)]) (st' := []) (S1 := zS c s) rfl ?_
      obtain rfl := Option.some.inj h
      exact zr_wk [some (.ref 161), some (.int x1), some (.int (w12 + (1 : Int32))), none] ⟨rfl, rfl, rfl, trivial⟩ (hn (w12 + (1 : Int32)) rfl)
    · rw [if_neg g8] at h
      obtain rfl := Option.some.inj h
      exact zr_wk [some (.ref 161), none, some (.int w12), some (.int r5)] ⟨rfl, rfl, rfl, trivial⟩ (hx (Sum.inl (w12, r5)) rfl)
def fX12_parts (n : Nat) (s : zs) : Option (Int32 × zs) := zp (fX12_fitting n (zsi s 161 0 (0 : Int32))) (fun r1 => zp (zl (fX12_parts_B12 n (zsi s 161 0 (0 : Int32)) r1) n (0 : Int32)) (Sum.elim (fun w9 => zt (zsi s 161 0 (0 : Int32)) (fun s10 => zp (fX12_enters n (zsi s10 161 1 (0 : Int32)) w9.2.toInt64) (fun s13 => some (w9.1, s13)))) (fun w15 => some ((-2 : Int32), (zsi s 161 0 (0 : Int32))))))
theorem tX12_parts {n : Nat} {c : Nat × Nat} {s : zs} {r : Int32} {s' : zs} (h : fX12_parts n s = some (r, s')) : zc 10 2502 [.ref 161] (zS c s) (some (.int r)) (zS c s') := by
  refine zc_of (k := kX12_parts) (rt := 1) (L := [some (.ref 161), none, none, none]) zm_2502.1 rfl rfl (by decide) rfl rfl ?_
  unfold fX12_parts at h
  refine zr_many 2 (pc' := 2) (L' := [some (.ref 161), none, none, none]) (st' := [.int (0 : Int32), .ref 161]) (S1 := zS c s) rfl ?_
  refine zq_put (s' := (zsi s 161 0 (0 : Int32))) rfl (zh_161 _) rfl rfl rfl rfl zsi_ne rfl ?_
  refine zr_many 1 (pc' := 6) (L' := [some (.ref 161), none, none, none]) (st' := [.ref 161]) (S1 := zS c (zsi s 161 0 (0 : Int32))) rfl ?_
  obtain ⟨r1, g3, h⟩ := zp_inv h
  refine zq_call1 rfl rfl (zh_161 _) rfl rfl rfl ((tX12_fitting g3).up (by decide)) rfl ?_
  refine zr_many 3 (pc' := 12) (L' := [some (.ref 161), some (.int r1), some (.int (0 : Int32)), none]) (st' := []) (S1 := zS c (zsi s 161 0 (0 : Int32))) rfl ?_
  obtain ⟨w17, g16, h⟩ := zp_inv h
  rcases w17 with w9 | w15
  · simp only [Sum.elim_inl, Sum.elim_inr] at h
    refine zr_wk [some (.ref 161), some (.int r1), some (.int (0 : Int32)), none] ⟨rfl, rfl, rfl, trivial⟩ (zl_cert (Z := fun w12 => zr kX12_parts 1 9 12 [some (.ref 161), some (.int r1), some (.int w12), none] [] (zS c (zsi s 161 0 (0 : Int32))) _ _) (Y := (Sum.elim (fun z => zr kX12_parts 1 9 31 [some (.ref 161), none, some (.int z.1), some (.int z.2)] [] (zS c (zsi s 161 0 (0 : Int32))) _ _) (fun z => zr kX12_parts 1 9 50 [none, none, none, none] [] (zS c (zsi s 161 0 (0 : Int32))) _ _))) (fun w o h1 h2 h3 => tX12_parts_B12 h1 h2 h3) n _ _ g16 ?_)
    show zr kX12_parts 1 9 31 [some (.ref 161), none, some (.int w9.1), some (.int w9.2)] [] (zS c (zsi s 161 0 (0 : Int32))) _ _
    refine zr_many 2 (pc' := 33) (L' := [some (.ref 161), none, some (.int w9.1), some (.int w9.2)]) (st' := [.int (0 : Int32), .ref 161]) (S1 := zS c (zsi s 161 0 (0 : Int32))) rfl ?_
    obtain ⟨s10, e11, h⟩ := zt_in h
    rw [← e11]
    refine zq_put (s' := (zsi s10 161 1 (0 : Int32))) rfl (zh_161 _) rfl rfl rfl rfl zsi_ne rfl ?_
    refine zr_many 3 (pc' := 39) (L' := [some (.ref 161), none, some (.int w9.1), some (.int w9.2)]) (st' := [.long w9.2.toInt64, .ref 161]) (S1 := zS c (zsi s10 161 1 (0 : Int32))) rfl ?_
    obtain ⟨s13, g14, h⟩ := zp_inv h
    refine zq_call0 rfl rfl (zh_161 _) rfl rfl rfl ((tX12_enters g14).up (by decide)) rfl ?_
    refine zr_many 1 (pc' := 43) (L' := [some (.ref 161), none, some (.int w9.1), some (.int w9.2)]) (st' := [.int w9.1]) (S1 := zS c s13) rfl ?_
    obtain ⟨rfl, rfl⟩ := Prod.mk.inj (Option.some.inj h)
    exact zq_iret rfl
  · simp only [Sum.elim_inl, Sum.elim_inr] at h
    refine zr_wk [some (.ref 161), some (.int r1), some (.int (0 : Int32)), none] ⟨rfl, rfl, rfl, trivial⟩ (zl_cert (Z := fun w12 => zr kX12_parts 1 9 12 [some (.ref 161), some (.int r1), some (.int w12), none] [] (zS c (zsi s 161 0 (0 : Int32))) _ _) (Y := (Sum.elim (fun z => zr kX12_parts 1 9 31 [some (.ref 161), none, some (.int z.1), some (.int z.2)] [] (zS c (zsi s 161 0 (0 : Int32))) _ _) (fun z => zr kX12_parts 1 9 50 [none, none, none, none] [] (zS c (zsi s 161 0 (0 : Int32))) _ _))) (fun w o h1 h2 h3 => tX12_parts_B12 h1 h2 h3) n _ _ g16 ?_)
    show zr kX12_parts 1 9 50 [none, none, none, none] [] (zS c (zsi s 161 0 (0 : Int32))) _ _
    refine zr_many 1 (pc' := 52) (L' := [none, none, none, none]) (st' := [.int (-2 : Int32)]) (S1 := zS c (zsi s 161 0 (0 : Int32))) rfl ?_
    obtain ⟨rfl, rfl⟩ := Prod.mk.inj (Option.some.inj h)
    exact zq_iret rfl
def fX12_bets_B36 (n : Nat) (x1 : Int32) (x3 : Int64) (w36 : Int64 × Int32 × zs) : Option ((Int64 × Int32 × zs) ⊕ (Int64 × zs)) := if x1 ≤ w36.2.1 then some (Sum.inr (w36.1, w36.2.2)) else some (Sum.inl ((w36.1 * x3), (w36.2.1 + (1 : Int32)), (zsl w36.2.2 161 49 ((w36.2.2.2 161 49) * (10000 : Int64)))))
theorem tX12_bets_B36 {n : Nat} {c : Nat × Nat} {x1 : Int32} {x3 : Int64} {w36 : Int64 × Int32 × zs} {o : _} {v : Option Value} {S' : zi_S} (h : fX12_bets_B36 n x1 x3 w36 = some o) (hn : ∀ w36, o = Sum.inl w36 → zr kX12_bets 0 0 36 [some (.ref 161), some (.int x1), none, some (.long x3), none, some (.long w36.1), none, some (.int w36.2.1)] [] (zS c w36.2.2) v S') (hx : ∀ z, o = Sum.inr z → (fun z => zr kX12_bets 0 0 66 [some (.ref 161), none, none, none, none, some (.long z.1), none, none] [] (zS c z.2) v S') z) : zr kX12_bets 0 0 36 [some (.ref 161), some (.int x1), none, some (.long x3), none, some (.long w36.1), none, some (.int w36.2.1)] [] (zS c w36.2.2) v S' := by
  unfold fX12_bets_B36 at h
  refine zr_many 2 (pc' := 39) (L' := [some (.ref 161), some (.int x1), none, some (.long x3), none, some (.long w36.1), none, some (.int w36.2.1)]) (st' := [.int x1, .int w36.2.1]) (S1 := zS c w36.2.2) rfl ?_
  refine zq_if2 (b := x1 ≤ w36.2.1) rfl Iff.rfl rfl (fun g1 => ?_) (fun g1 => ?_)
  · rw [if_pos g1] at h
    obtain rfl := Option.some.inj h
    exact zr_wk [some (.ref 161), none, none, none, none, some (.long w36.1), none, none] ⟨rfl, rfl, trivial⟩ (hx (w36.1, w36.2.2) rfl)
  · rw [if_neg g1] at h
    refine zr_many 6 (pc' := 50) (L' := [some (.ref 161), some (.int x1), none, some (.long x3), none, some (.long (w36.1 * x3)), none, some (.int w36.2.1)]) (st' := [.ref 161, .ref 161]) (S1 := zS c w36.2.2) rfl ?_
    refine zq_get rfl (zh_161 _) rfl rfl rfl ?_
    refine zr_many 2 (pc' := 57) (L' := [some (.ref 161), some (.int x1), none, some (.long x3), none, some (.long (w36.1 * x3)), none, some (.int w36.2.1)]) (st' := [.long ((w36.2.2.2 161 49) * (10000 : Int64)), .ref 161]) (S1 := zS c w36.2.2) rfl ?_
    refine zq_put (s' := (zsl w36.2.2 161 49 ((w36.2.2.2 161 49) * (10000 : Int64)))) rfl (zh_161 _) rfl rfl rfl rfl zsl_ne rfl ?_
    refine zr_many 2 (pc' := 36) (L' := [some (.ref 161), some (.int x1), none, some (.long x3), none, some (.long (w36.1 * x3)), none, some (.int (w36.2.1 + (1 : Int32)))]) (st' := []) (S1 := zS c (zsl w36.2.2 161 49 ((w36.2.2.2 161 49) * (10000 : Int64)))) rfl ?_
    obtain rfl := Option.some.inj h
    exact zr_wk [some (.ref 161), some (.int x1), none, some (.long x3), none, some (.long (w36.1 * x3)), none, some (.int (w36.2.1 + (1 : Int32)))] ⟨rfl, rfl, rfl, rfl, rfl, trivial⟩ (hn ((w36.1 * x3), (w36.2.1 + (1 : Int32)), (zsl w36.2.2 161 49 ((w36.2.2.2 161 49) * (10000 : Int64)))) rfl)
def fX12_bets (n : Nat) (s : zs) (x1 : Int32) (x2 : Int32) : Option zs := zp (zl (fX12_bets_B36 n x1 (((10000 : Int32) - (((((10 : Int32) - x2) * ((10 : Int32) - x2)) * ((10 : Int32) - x2)) * ((10 : Int32) - x2))).toInt64)) n ((1 : Int64), (0 : Int32), (zsl s 161 49 (1 : Int64)))) (fun w2 => some (zsl w2.2 161 48 ((w2.2.2 161 49) - w2.1)))
theorem tX12_bets {n : Nat} {c : Nat × Nat} {s : zs} {x1 : Int32} {x2 : Int32} {s' : zs} (h : fX12_bets n s x1 x2 = some s') : zc 1 2503 [.ref 161, .int x1, .int x2] (zS c s) none (zS c s') := by
  refine zc_of (k := kX12_bets) (rt := 0) (L := [some (.ref 161), some (.int x1), some (.int x2), none, none, none, none, none]) zm_2503.1 rfl rfl (by decide) rfl rfl ?_
  unfold fX12_bets at h
  refine zr_many 23 (pc' := 30) (L' := [some (.ref 161), some (.int x1), some (.int x2), some (.long ((10000 : Int32) - (((((10 : Int32) - x2) * ((10 : Int32) - x2)) * ((10 : Int32) - x2)) * ((10 : Int32) - x2))).toInt64), none, some (.long (1 : Int64)), none, none]) (st' := [.long (1 : Int64), .ref 161]) (S1 := zS c s) rfl ?_
  refine zq_put (s' := (zsl s 161 49 (1 : Int64))) rfl (zh_161 _) rfl rfl rfl rfl zsl_ne rfl ?_
  refine zr_many 2 (pc' := 36) (L' := [some (.ref 161), some (.int x1), some (.int x2), some (.long ((10000 : Int32) - (((((10 : Int32) - x2) * ((10 : Int32) - x2)) * ((10 : Int32) - x2)) * ((10 : Int32) - x2))).toInt64), none, some (.long (1 : Int64)), none, some (.int (0 : Int32))]) (st' := []) (S1 := zS c (zsl s 161 49 (1 : Int64))) rfl ?_
  obtain ⟨w2, g3, h⟩ := zp_inv h
  refine zr_wk [some (.ref 161), some (.int x1), none, some (.long ((10000 : Int32) - (((((10 : Int32) - x2) * ((10 : Int32) - x2)) * ((10 : Int32) - x2)) * ((10 : Int32) - x2))).toInt64), none, some (.long (1 : Int64)), none, some (.int (0 : Int32))] ⟨rfl, rfl, rfl, rfl, rfl, trivial⟩ (zl_cert (Z := fun w36 => zr kX12_bets 0 0 36 [some (.ref 161), some (.int x1), none, some (.long ((10000 : Int32) - (((((10 : Int32) - x2) * ((10 : Int32) - x2)) * ((10 : Int32) - x2)) * ((10 : Int32) - x2))).toInt64), none, some (.long w36.1), none, some (.int w36.2.1)] [] (zS c w36.2.2) _ _) (Y := (fun z => zr kX12_bets 0 0 66 [some (.ref 161), none, none, none, none, some (.long z.1), none, none] [] (zS c z.2) _ _)) (fun w o h1 h2 h3 => tX12_bets_B36 h1 h2 h3) n _ _ g3 ?_)
  show zr kX12_bets 0 0 66 [some (.ref 161), none, none, none, none, some (.long w2.1), none, none] [] (zS c w2.2) _ _
  refine zr_many 2 (pc' := 68) (L' := [some (.ref 161), none, none, none, none, some (.long w2.1), none, none]) (st' := [.ref 161, .ref 161]) (S1 := zS c w2.2) rfl ?_
  refine zq_get rfl (zh_161 _) rfl rfl rfl ?_
  refine zr_many 2 (pc' := 74) (L' := [some (.ref 161), none, none, none, none, some (.long w2.1), none, none]) (st' := [.long ((w2.2.2 161 49) - w2.1), .ref 161]) (S1 := zS c w2.2) rfl ?_
  refine zq_put (s' := (zsl w2.2 161 48 ((w2.2.2 161 49) - w2.1))) rfl (zh_161 _) rfl rfl rfl rfl zsl_ne rfl ?_
  obtain rfl := Option.some.inj h
  exact zq_vret rfl
def fX12_opens_J29 (n : Nat) (s : zs) : Option (Int32 × zs) := some ((-1 : Int32), s)
theorem tX12_opens_J29 {n : Nat} {c : Nat × Nat} {s : zs} {r : Int32} {s' : zs} (h : fX12_opens_J29 n s = some (r, s')) : zr kX12_opens 1 200 29 [none, none, none, none, none] [] (zS c s) (some (.int r)) (zS c s') := by
  unfold fX12_opens_J29 at h
  refine zr_many 1 (pc' := 30) (L' := [none, none, none, none, none]) (st' := [.int (-1 : Int32)]) (S1 := zS c s) rfl ?_
  obtain ⟨rfl, rfl⟩ := Prod.mk.inj (Option.some.inj h)
  exact zq_iret rfl
def fX12_opens (n : Nat) (s : zs) (x1 : Int32) (x2 : Int32) : Option (Int32 × zs) := zp (fX12_in n (zsi s 161 0 (0 : Int32)) x1.toInt64 (1 : Int64) (4 : Int64)) (fun r1 => if r1 = 0 then fX12_opens_J29 n (zsi s 161 0 (0 : Int32)) else zp (fX12_in n (zsi s 161 0 (0 : Int32)) x2.toInt64 (0 : Int64) (10 : Int64)) (fun r5 => if ¬ r5 = 0 then zp (fX12_bets n (zsi s 161 0 (0 : Int32)) x1 x2) (fun s10 => zp (fX12_common n 200 s10 (s10.2 161 48) (s10.2 161 49)) (fun r12 => if r12 = 0 then none else (zp (fX12_enters n (zsi s10 161 1 (0 : Int32)) (((zsi s10 161 1 (0 : Int32)).2 161 48) / r12)) (fun s16 => if r12 = 0 then none else (zp (fX12_enters n s16 ((s16.2 161 49) / r12)) (fun s19 => some ((0 : Int32), s19))))))) else fX12_opens_J29 n (zsi s 161 0 (0 : Int32))))
theorem tX12_opens {n : Nat} {c : Nat × Nat} {s : zs} {x1 : Int32} {x2 : Int32} {r : Int32} {s' : zs} (h : fX12_opens n s x1 x2 = some (r, s')) : zc 201 2504 [.ref 161, .int x1, .int x2] (zS c s) (some (.int r)) (zS c s') := by
  refine zc_of (k := kX12_opens) (rt := 1) (L := [some (.ref 161), some (.int x1), some (.int x2), none, none]) zm_2504.1 rfl rfl (by decide) rfl rfl ?_
  unfold fX12_opens at h
  refine zr_many 2 (pc' := 2) (L' := [some (.ref 161), some (.int x1), some (.int x2), none, none]) (st' := [.int (0 : Int32), .ref 161]) (S1 := zS c s) rfl ?_
  refine zq_put (s' := (zsi s 161 0 (0 : Int32))) rfl (zh_161 _) rfl rfl rfl rfl zsi_ne rfl ?_
  refine zr_many 4 (pc' := 11) (L' := [some (.ref 161), some (.int x1), some (.int x2), none, none]) (st' := [.long (4 : Int64), .long (1 : Int64), .long x1.toInt64]) (S1 := zS c (zsi s 161 0 (0 : Int32))) rfl ?_
  obtain ⟨r1, g3, h⟩ := zp_inv h
  refine zq_scall1 rfl (by decide) rfl rfl ((tX12_in g3).up (by decide)) rfl ?_
  refine zq_if1 (b := r1 = 0) rfl Iff.rfl rfl (fun g4 => ?_) (fun g4 => ?_)
  · rw [if_pos g4] at h
    exact zr_wk [none, none, none, none, none] trivial (tX12_opens_J29 h)
  · rw [if_neg g4] at h
    refine zr_many 4 (pc' := 23) (L' := [some (.ref 161), some (.int x1), some (.int x2), none, none]) (st' := [.long (10 : Int64), .long (0 : Int64), .long x2.toInt64]) (S1 := zS c (zsi s 161 0 (0 : Int32))) rfl ?_
    obtain ⟨r5, g7, h⟩ := zp_inv h
    refine zq_scall1 rfl (by decide) rfl rfl ((tX12_in g7).up (by decide)) rfl ?_
    refine zq_if1 (b := ¬ r5 = 0) rfl Iff.rfl rfl (fun g8 => ?_) (fun g8 => ?_)
    · rw [if_pos g8] at h
      refine zr_many 3 (pc' := 34) (L' := [some (.ref 161), some (.int x1), some (.int x2), none, none]) (st' := [.int x2, .int x1, .ref 161]) (S1 := zS c (zsi s 161 0 (0 : Int32))) rfl ?_
      obtain ⟨s10, g11, h⟩ := zp_inv h
      refine zq_call0 rfl rfl (zh_161 _) rfl rfl rfl ((tX12_bets g11).up (by decide)) rfl ?_
      refine zr_many 1 (pc' := 38) (L' := [some (.ref 161), some (.int x1), some (.int x2), none, none]) (st' := [.ref 161]) (S1 := zS c s10) rfl ?_
      refine zq_get rfl (zh_161 _) rfl rfl rfl ?_
      refine zr_many 1 (pc' := 42) (L' := [some (.ref 161), some (.int x1), some (.int x2), none, none]) (st' := [.ref 161, .long (s10.2 161 48)]) (S1 := zS c s10) rfl ?_
      refine zq_get rfl (zh_161 _) rfl rfl rfl ?_
      obtain ⟨r12, g14, h⟩ := zp_inv h
      refine zq_scall1 rfl (by decide) rfl rfl (tX12_common g14) rfl ?_
      refine zr_many 3 (pc' := 51) (L' := [some (.ref 161), some (.int x1), some (.int x2), some (.long r12), none]) (st' := [.int (0 : Int32), .ref 161]) (S1 := zS c s10) rfl ?_
      refine zq_put (s' := (zsi s10 161 1 (0 : Int32))) rfl (zh_161 _) rfl rfl rfl rfl zsi_ne rfl ?_
      refine zr_many 2 (pc' := 56) (L' := [some (.ref 161), some (.int x1), some (.int x2), some (.long r12), none]) (st' := [.ref 161, .ref 161]) (S1 := zS c (zsi s10 161 1 (0 : Int32))) rfl ?_
      refine zq_get rfl (zh_161 _) rfl rfl rfl ?_
      refine zr_many 1 (pc' := 60) (L' := [some (.ref 161), some (.int x1), some (.int x2), some (.long r12), none]) (st' := [.long r12, .long ((zsi s10 161 1 (0 : Int32)).2 161 48), .ref 161]) (S1 := zS c (zsi s10 161 1 (0 : Int32))) rfl ?_
      obtain ⟨g21, h⟩ := zn_inv h
      refine zq_ldiv rfl g21 rfl ?_
      obtain ⟨s16, g17, h⟩ := zp_inv h
      refine zq_call0 rfl rfl (zh_161 _) rfl rfl rfl ((tX12_enters g17).up (by decide)) rfl ?_
      refine zr_many 2 (pc' := 66) (L' := [some (.ref 161), some (.int x1), some (.int x2), some (.long r12), none]) (st' := [.ref 161, .ref 161]) (S1 := zS c s16) rfl ?_
      refine zq_get rfl (zh_161 _) rfl rfl rfl ?_
      refine zr_many 1 (pc' := 70) (L' := [some (.ref 161), some (.int x1), some (.int x2), some (.long r12), none]) (st' := [.long r12, .long (s16.2 161 49), .ref 161]) (S1 := zS c s16) rfl ?_
      obtain ⟨g22, h⟩ := zn_inv h
      refine zq_ldiv rfl g22 rfl ?_
      obtain ⟨s19, g20, h⟩ := zp_inv h
      refine zq_call0 rfl rfl (zh_161 _) rfl rfl rfl ((tX12_enters g20).up (by decide)) rfl ?_
      refine zr_many 1 (pc' := 75) (L' := [some (.ref 161), some (.int x1), some (.int x2), some (.long r12), none]) (st' := [.int (0 : Int32)]) (S1 := zS c s19) rfl ?_
      obtain ⟨rfl, rfl⟩ := Prod.mk.inj (Option.some.inj h)
      exact zq_iret rfl
    · rw [if_neg g8] at h
      exact zr_wk [none, none, none, none, none] trivial (tX12_opens_J29 h)
def fX12_tries_J29 (n : Nat) (s : zs) : Option (Int32 × zs) := some ((-1 : Int32), s)
theorem tX12_tries_J29 {n : Nat} {c : Nat × Nat} {s : zs} {r : Int32} {s' : zs} (h : fX12_tries_J29 n s = some (r, s')) : zr kX12_tries 1 1 29 [none, none, none, none] [] (zS c s) (some (.int r)) (zS c s') := by
  unfold fX12_tries_J29 at h
  refine zr_many 1 (pc' := 30) (L' := [none, none, none, none]) (st' := [.int (-1 : Int32)]) (S1 := zS c s) rfl ?_
  obtain ⟨rfl, rfl⟩ := Prod.mk.inj (Option.some.inj h)
  exact zq_iret rfl
def fX12_tries_B33 (n : Nat) (x1 : Int32) (x2 : Int32) (w33 : Int32 × zs) : Option ((Int32 × zs) ⊕ ((Int32 × zs) ⊕ (zs))) := if (4 : Int32) < w33.1 then some (Sum.inr (Sum.inr w33.2)) else zp (fX12_bets n w33.2 w33.1 x1) (fun s11 => if (lg_cmp ((100 : Int64) * (s11.2 161 48)) (x2.toInt64 * (s11.2 161 49))) < 0 then some (Sum.inl ((w33.1 + (1 : Int32)), s11)) else some (Sum.inr (Sum.inl (w33.1, s11))))
theorem tX12_tries_B33 {n : Nat} {c : Nat × Nat} {x1 : Int32} {x2 : Int32} {w33 : Int32 × zs} {o : _} {v : Option Value} {S' : zi_S} (h : fX12_tries_B33 n x1 x2 w33 = some o) (hn : ∀ w33, o = Sum.inl w33 → zr kX12_tries 1 1 33 [some (.ref 161), some (.int x1), some (.int x2), some (.int w33.1)] [] (zS c w33.2) v S') (hx : ∀ z, o = Sum.inr z → (Sum.elim (fun z => zr kX12_tries 1 1 63 [none, none, none, some (.int z.1)] [] (zS c z.2) v S') (fun z => zr kX12_tries 1 1 71 [none, none, none, none] [] (zS c z) v S')) z) : zr kX12_tries 1 1 33 [some (.ref 161), some (.int x1), some (.int x2), some (.int w33.1)] [] (zS c w33.2) v S' := by
  unfold fX12_tries_B33 at h
  refine zr_many 2 (pc' := 35) (L' := [some (.ref 161), some (.int x1), some (.int x2), some (.int w33.1)]) (st' := [.int (4 : Int32), .int w33.1]) (S1 := zS c w33.2) rfl ?_
  refine zq_if2 (b := (4 : Int32) < w33.1) rfl Iff.rfl rfl (fun g9 => ?_) (fun g9 => ?_)
  · rw [if_pos g9] at h
    obtain rfl := Option.some.inj h
    exact zr_wk [none, none, none, none] trivial (hx (Sum.inr w33.2) rfl)
  · rw [if_neg g9] at h
    refine zr_many 3 (pc' := 41) (L' := [some (.ref 161), some (.int x1), some (.int x2), some (.int w33.1)]) (st' := [.int x1, .int w33.1, .ref 161]) (S1 := zS c w33.2) rfl ?_
    obtain ⟨s11, g12, h⟩ := zp_inv h
    refine zq_call0 rfl rfl (zh_161 _) rfl rfl rfl (tX12_bets g12) rfl ?_
    refine zr_many 2 (pc' := 48) (L' := [some (.ref 161), some (.int x1), some (.int x2), some (.int w33.1)]) (st' := [.ref 161, .long (100 : Int64)]) (S1 := zS c s11) rfl ?_
    refine zq_get rfl (zh_161 _) rfl rfl rfl ?_
    refine zr_many 4 (pc' := 55) (L' := [some (.ref 161), some (.int x1), some (.int x2), some (.int w33.1)]) (st' := [.ref 161, .long x2.toInt64, .long ((100 : Int64) * (s11.2 161 48))]) (S1 := zS c s11) rfl ?_
    refine zq_get rfl (zh_161 _) rfl rfl rfl ?_
    refine zr_many 2 (pc' := 60) (L' := [some (.ref 161), some (.int x1), some (.int x2), some (.int w33.1)]) (st' := [.int (lg_cmp ((100 : Int64) * (s11.2 161 48)) (x2.toInt64 * (s11.2 161 49)))]) (S1 := zS c s11) rfl ?_
    refine zq_if1 (b := (lg_cmp ((100 : Int64) * (s11.2 161 48)) (x2.toInt64 * (s11.2 161 49))) < 0) rfl Iff.rfl rfl (fun g13 => ?_) (fun g13 => ?_)
    · rw [if_pos g13] at h
      refine zr_many 2 (pc' := 33) (L' := [some (.ref 161), some (.int x1), some (.int x2), some (.int (w33.1 + (1 : Int32)))]) (st' := []) (S1 := zS c s11) rfl ?_
      obtain rfl := Option.some.inj h
      exact zr_wk [some (.ref 161), some (.int x1), some (.int x2), some (.int (w33.1 + (1 : Int32)))] ⟨rfl, rfl, rfl, rfl, trivial⟩ (hn ((w33.1 + (1 : Int32)), s11) rfl)
    · rw [if_neg g13] at h
      obtain rfl := Option.some.inj h
      exact zr_wk [none, none, none, some (.int w33.1)] ⟨rfl, trivial⟩ (hx (Sum.inl (w33.1, s11)) rfl)
def fX12_tries (n : Nat) (s : zs) (x1 : Int32) (x2 : Int32) : Option (Int32 × zs) := zp (fX12_in n (zsi s 161 0 (0 : Int32)) x1.toInt64 (0 : Int64) (10 : Int64)) (fun r1 => if r1 = 0 then fX12_tries_J29 n (zsi s 161 0 (0 : Int32)) else zp (fX12_in n (zsi s 161 0 (0 : Int32)) x2.toInt64 (0 : Int64) (100 : Int64)) (fun r5 => if ¬ r5 = 0 then zp (zl (fX12_tries_B33 n x1 x2) n ((1 : Int32), (zsi s 161 0 (0 : Int32)))) (Sum.elim (fun w14 => some (w14.1, w14.2)) (fun w15 => some ((-2 : Int32), w15))) else fX12_tries_J29 n (zsi s 161 0 (0 : Int32))))
theorem tX12_tries {n : Nat} {c : Nat × Nat} {s : zs} {x1 : Int32} {x2 : Int32} {r : Int32} {s' : zs} (h : fX12_tries n s x1 x2 = some (r, s')) : zc 2 2505 [.ref 161, .int x1, .int x2] (zS c s) (some (.int r)) (zS c s') := by
  refine zc_of (k := kX12_tries) (rt := 1) (L := [some (.ref 161), some (.int x1), some (.int x2), none]) zm_2505.1 rfl rfl (by decide) rfl rfl ?_
  unfold fX12_tries at h
  refine zr_many 2 (pc' := 2) (L' := [some (.ref 161), some (.int x1), some (.int x2), none]) (st' := [.int (0 : Int32), .ref 161]) (S1 := zS c s) rfl ?_
  refine zq_put (s' := (zsi s 161 0 (0 : Int32))) rfl (zh_161 _) rfl rfl rfl rfl zsi_ne rfl ?_
  refine zr_many 4 (pc' := 11) (L' := [some (.ref 161), some (.int x1), some (.int x2), none]) (st' := [.long (10 : Int64), .long (0 : Int64), .long x1.toInt64]) (S1 := zS c (zsi s 161 0 (0 : Int32))) rfl ?_
  obtain ⟨r1, g3, h⟩ := zp_inv h
  refine zq_scall1 rfl (by decide) rfl rfl (tX12_in g3) rfl ?_
  refine zq_if1 (b := r1 = 0) rfl Iff.rfl rfl (fun g4 => ?_) (fun g4 => ?_)
  · rw [if_pos g4] at h
    exact zr_wk [none, none, none, none] trivial (tX12_tries_J29 h)
  · rw [if_neg g4] at h
    refine zr_many 4 (pc' := 23) (L' := [some (.ref 161), some (.int x1), some (.int x2), none]) (st' := [.long (100 : Int64), .long (0 : Int64), .long x2.toInt64]) (S1 := zS c (zsi s 161 0 (0 : Int32))) rfl ?_
    obtain ⟨r5, g7, h⟩ := zp_inv h
    refine zq_scall1 rfl (by decide) rfl rfl (tX12_in g7) rfl ?_
    refine zq_if1 (b := ¬ r5 = 0) rfl Iff.rfl rfl (fun g8 => ?_) (fun g8 => ?_)
    · rw [if_pos g8] at h
      refine zr_many 2 (pc' := 33) (L' := [some (.ref 161), some (.int x1), some (.int x2), some (.int (1 : Int32))]) (st' := []) (S1 := zS c (zsi s 161 0 (0 : Int32))) rfl ?_
      obtain ⟨w17, g16, h⟩ := zp_inv h
      rcases w17 with w14 | w15
      · simp only [Sum.elim_inl, Sum.elim_inr] at h
        refine zr_wk [some (.ref 161), some (.int x1), some (.int x2), some (.int (1 : Int32))] ⟨rfl, rfl, rfl, rfl, trivial⟩ (zl_cert (Z := fun w33 => zr kX12_tries 1 1 33 [some (.ref 161), some (.int x1), some (.int x2), some (.int w33.1)] [] (zS c w33.2) _ _) (Y := (Sum.elim (fun z => zr kX12_tries 1 1 63 [none, none, none, some (.int z.1)] [] (zS c z.2) _ _) (fun z => zr kX12_tries 1 1 71 [none, none, none, none] [] (zS c z) _ _))) (fun w o h1 h2 h3 => tX12_tries_B33 h1 h2 h3) n _ _ g16 ?_)
        show zr kX12_tries 1 1 63 [none, none, none, some (.int w14.1)] [] (zS c w14.2) _ _
        refine zr_many 1 (pc' := 64) (L' := [none, none, none, some (.int w14.1)]) (st' := [.int w14.1]) (S1 := zS c w14.2) rfl ?_
        obtain ⟨rfl, rfl⟩ := Prod.mk.inj (Option.some.inj h)
        exact zq_iret rfl
      · simp only [Sum.elim_inl, Sum.elim_inr] at h
        refine zr_wk [some (.ref 161), some (.int x1), some (.int x2), some (.int (1 : Int32))] ⟨rfl, rfl, rfl, rfl, trivial⟩ (zl_cert (Z := fun w33 => zr kX12_tries 1 1 33 [some (.ref 161), some (.int x1), some (.int x2), some (.int w33.1)] [] (zS c w33.2) _ _) (Y := (Sum.elim (fun z => zr kX12_tries 1 1 63 [none, none, none, some (.int z.1)] [] (zS c z.2) _ _) (fun z => zr kX12_tries 1 1 71 [none, none, none, none] [] (zS c z) _ _))) (fun w o h1 h2 h3 => tX12_tries_B33 h1 h2 h3) n _ _ g16 ?_)
        show zr kX12_tries 1 1 71 [none, none, none, none] [] (zS c w15) _ _
        refine zr_many 1 (pc' := 73) (L' := [none, none, none, none]) (st' := [.int (-2 : Int32)]) (S1 := zS c w15) rfl ?_
        obtain ⟨rfl, rfl⟩ := Prod.mk.inj (Option.some.inj h)
        exact zq_iret rfl
    · rw [if_neg g8] at h
      exact zr_wk [none, none, none, none] trivial (tX12_tries_J29 h)
def fX12_earns_J25 (n : Nat) (s : zs) (y0 : Int32) : Option Int32 := some y0
theorem tX12_earns_J25 {n : Nat} {c : Nat × Nat} {s : zs} {y0 : Int32} {r : Int32} (h : fX12_earns_J25 n s y0 = some r) : zr kX12_earns 1 0 25 [none, none, none] [.int y0] (zS c s) (some (.int r)) (zS c s) := by
  unfold fX12_earns_J25 at h
  obtain rfl := Option.some.inj h
  exact zq_iret rfl
def fX12_earns (n : Nat) (s : zs) (x0 : Int32) (x1 : Int32) (x2 : Int32) : Option Int32 := if x1 ≤ x0 then if ¬ x0 = x1 then fX12_earns_J25 n s (0 : Int32) else fX12_earns_J25 n s ((x0 - x2) / (2 : Int32)) else fX12_earns_J25 n s (x0 - x2)
theorem tX12_earns {n : Nat} {c : Nat × Nat} {s : zs} {x0 : Int32} {x1 : Int32} {x2 : Int32} {r : Int32} (h : fX12_earns n s x0 x1 x2 = some r) : zc 1 2506 [.int x0, .int x1, .int x2] (zS c s) (some (.int r)) (zS c s) := by
  refine zc_of (k := kX12_earns) (rt := 1) (L := [some (.int x0), some (.int x1), some (.int x2)]) zm_2506.1 rfl rfl (by decide) rfl rfl ?_
  unfold fX12_earns at h
  refine zr_many 2 (pc' := 2) (L' := [some (.int x0), some (.int x1), some (.int x2)]) (st' := [.int x1, .int x0]) (S1 := zS c s) rfl ?_
  refine zq_if2 (b := x1 ≤ x0) rfl Iff.rfl rfl (fun g1 => ?_) (fun g1 => ?_)
  · rw [if_pos g1] at h
    refine zr_many 2 (pc' := 13) (L' := [some (.int x0), some (.int x1), some (.int x2)]) (st' := [.int x1, .int x0]) (S1 := zS c s) rfl ?_
    refine zq_if2 (b := ¬ x0 = x1) rfl Iff.rfl rfl (fun g2 => ?_) (fun g2 => ?_)
    · rw [if_pos g2] at h
      refine zr_many 1 (pc' := 25) (L' := [some (.int x0), some (.int x1), some (.int x2)]) (st' := [.int (0 : Int32)]) (S1 := zS c s) rfl ?_
      exact zr_wk [none, none, none] trivial (tX12_earns_J25 h)
    · rw [if_neg g2] at h
      refine zr_many 4 (pc' := 20) (L' := [some (.int x0), some (.int x1), some (.int x2)]) (st' := [.int (2 : Int32), .int (x0 - x2)]) (S1 := zS c s) rfl ?_
      refine zq_idiv rfl (by decide) rfl ?_
      refine zr_many 1 (pc' := 25) (L' := [some (.int x0), some (.int x1), some (.int x2)]) (st' := [.int ((x0 - x2) / (2 : Int32))]) (S1 := zS c s) rfl ?_
      exact zr_wk [none, none, none] trivial (tX12_earns_J25 h)
  · rw [if_neg g1] at h
    refine zr_many 4 (pc' := 25) (L' := [some (.int x0), some (.int x1), some (.int x2)]) (st' := [.int (x0 - x2)]) (S1 := zS c s) rfl ?_
    exact zr_wk [none, none, none] trivial (tX12_earns_J25 h)
def fX12_isRest_J37 (n : Nat) (s : zs) (x0 : Int32) (x1 : Int32) (x2 : Int32) (x4 : Int32) (y0 : Int32) : Option ((Int32 × Int32) ⊕ (Int32)) := some (Sum.inl (y0, (x4 + (1 : Int32))))
theorem tX12_isRest_J37 {n : Nat} {c : Nat × Nat} {s : zs} {x0 : Int32} {x1 : Int32} {x2 : Int32} {x4 : Int32} {y0 : Int32} {o : _} {v : Option Value} {S' : zi_S} (h : fX12_isRest_J37 n s x0 x1 x2 x4 y0 = some o) (hn : ∀ w5, o = Sum.inl w5 → zr kX12_isRest 2 1 5 [some (.int x0), some (.int x1), some (.int x2), some (.int w5.1), some (.int w5.2)] [] (zS c s) v S') (hx : ∀ z, o = Sum.inr z → (fun z => zr kX12_isRest 2 1 44 [none, none, none, some (.int z), none] [] (zS c s) v S') z) : zr kX12_isRest 2 1 37 [some (.int x0), some (.int x1), some (.int x2), none, some (.int x4)] [.int y0] (zS c s) v S' := by
  unfold fX12_isRest_J37 at h
  refine zr_many 3 (pc' := 5) (L' := [some (.int x0), some (.int x1), some (.int x2), some (.int y0), some (.int (x4 + (1 : Int32)))]) (st' := []) (S1 := zS c s) rfl ?_
  obtain rfl := Option.some.inj h
  exact zr_wk [some (.int x0), some (.int x1), some (.int x2), some (.int y0), some (.int (x4 + (1 : Int32)))] ⟨rfl, rfl, rfl, rfl, rfl, trivial⟩ (hn (y0, (x4 + (1 : Int32))) rfl)
def fX12_isRest_J36 (n : Nat) (s : zs) (x0 : Int32) (x1 : Int32) (x2 : Int32) (x4 : Int32) : Option ((Int32 × Int32) ⊕ (Int32)) := fX12_isRest_J37 n s x0 x1 x2 x4 (0 : Int32)
theorem tX12_isRest_J36 {n : Nat} {c : Nat × Nat} {s : zs} {x0 : Int32} {x1 : Int32} {x2 : Int32} {x4 : Int32} {o : _} {v : Option Value} {S' : zi_S} (h : fX12_isRest_J36 n s x0 x1 x2 x4 = some o) (hn : ∀ w5, o = Sum.inl w5 → zr kX12_isRest 2 1 5 [some (.int x0), some (.int x1), some (.int x2), some (.int w5.1), some (.int w5.2)] [] (zS c s) v S') (hx : ∀ z, o = Sum.inr z → (fun z => zr kX12_isRest 2 1 44 [none, none, none, some (.int z), none] [] (zS c s) v S') z) : zr kX12_isRest 2 1 36 [some (.int x0), some (.int x1), some (.int x2), none, some (.int x4)] [] (zS c s) v S' := by
  unfold fX12_isRest_J36 at h
  refine zr_many 1 (pc' := 37) (L' := [some (.int x0), some (.int x1), some (.int x2), none, some (.int x4)]) (st' := [.int (0 : Int32)]) (S1 := zS c s) rfl ?_
  exact zr_wk [some (.int x0), some (.int x1), some (.int x2), none, some (.int x4)] ⟨rfl, rfl, rfl, rfl, trivial⟩ (tX12_isRest_J37 h hn hx)
def fX12_isRest_B5 (n : Nat) (s : zs) (x0 : Int32) (x1 : Int32) (x2 : Int32) (w5 : Int32 × Int32) : Option ((Int32 × Int32) ⊕ (Int32)) := if (9 : Int32) < w5.2 then some (Sum.inr w5.1) else if w5.1 = 0 then fX12_isRest_J36 n s x0 x1 x2 w5.2 else zp (fX12_earns n s w5.2 x1 x2) (fun r3 => zp (fX12_earns n s x0 x1 x2) (fun r6 => if r6 < r3 then fX12_isRest_J36 n s x0 x1 x2 w5.2 else fX12_isRest_J37 n s x0 x1 x2 w5.2 (1 : Int32)))
theorem tX12_isRest_B5 {n : Nat} {c : Nat × Nat} {s : zs} {x0 : Int32} {x1 : Int32} {x2 : Int32} {w5 : Int32 × Int32} {o : _} {v : Option Value} {S' : zi_S} (h : fX12_isRest_B5 n s x0 x1 x2 w5 = some o) (hn : ∀ w5, o = Sum.inl w5 → zr kX12_isRest 2 1 5 [some (.int x0), some (.int x1), some (.int x2), some (.int w5.1), some (.int w5.2)] [] (zS c s) v S') (hx : ∀ z, o = Sum.inr z → (fun z => zr kX12_isRest 2 1 44 [none, none, none, some (.int z), none] [] (zS c s) v S') z) : zr kX12_isRest 2 1 5 [some (.int x0), some (.int x1), some (.int x2), some (.int w5.1), some (.int w5.2)] [] (zS c s) v S' := by
  unfold fX12_isRest_B5 at h
  refine zr_many 2 (pc' := 9) (L' := [some (.int x0), some (.int x1), some (.int x2), some (.int w5.1), some (.int w5.2)]) (st' := [.int (9 : Int32), .int w5.2]) (S1 := zS c s) rfl ?_
  refine zq_if2 (b := (9 : Int32) < w5.2) rfl Iff.rfl rfl (fun g1 => ?_) (fun g1 => ?_)
  · rw [if_pos g1] at h
    obtain rfl := Option.some.inj h
    exact zr_wk [none, none, none, some (.int w5.1), none] ⟨rfl, trivial⟩ (hx w5.1 rfl)
  · rw [if_neg g1] at h
    refine zr_many 1 (pc' := 13) (L' := [some (.int x0), some (.int x1), some (.int x2), some (.int w5.1), some (.int w5.2)]) (st' := [.int w5.1]) (S1 := zS c s) rfl ?_
    refine zq_if1 (b := w5.1 = 0) rfl Iff.rfl rfl (fun g2 => ?_) (fun g2 => ?_)
    · rw [if_pos g2] at h
      exact zr_wk [some (.int x0), some (.int x1), some (.int x2), none, some (.int w5.2)] ⟨rfl, rfl, rfl, rfl, trivial⟩ (tX12_isRest_J36 h hn hx)
    · rw [if_neg g2] at h
      refine zr_many 3 (pc' := 20) (L' := [some (.int x0), some (.int x1), some (.int x2), some (.int w5.1), some (.int w5.2)]) (st' := [.int x2, .int x1, .int w5.2]) (S1 := zS c s) rfl ?_
      obtain ⟨r3, g5, h⟩ := zp_inv h
      refine zq_scall1 rfl (by decide) rfl rfl (tX12_earns g5) rfl ?_
      refine zr_many 3 (pc' := 26) (L' := [some (.int x0), some (.int x1), some (.int x2), some (.int w5.1), some (.int w5.2)]) (st' := [.int x2, .int x1, .int x0, .int r3]) (S1 := zS c s) rfl ?_
      obtain ⟨r6, g8, h⟩ := zp_inv h
      refine zq_scall1 rfl (by decide) rfl rfl (tX12_earns g8) rfl ?_
      refine zq_if2 (b := r6 < r3) rfl Iff.rfl rfl (fun g9 => ?_) (fun g9 => ?_)
      · rw [if_pos g9] at h
        exact zr_wk [some (.int x0), some (.int x1), some (.int x2), none, some (.int w5.2)] ⟨rfl, rfl, rfl, rfl, trivial⟩ (tX12_isRest_J36 h hn hx)
      · rw [if_neg g9] at h
        refine zr_many 2 (pc' := 37) (L' := [some (.int x0), some (.int x1), some (.int x2), some (.int w5.1), some (.int w5.2)]) (st' := [.int (1 : Int32)]) (S1 := zS c s) rfl ?_
        exact zr_wk [some (.int x0), some (.int x1), some (.int x2), none, some (.int w5.2)] ⟨rfl, rfl, rfl, rfl, trivial⟩ (tX12_isRest_J37 h hn hx)
def fX12_isRest (n : Nat) (s : zs) (x0 : Int32) (x1 : Int32) (x2 : Int32) : Option Int32 := zp (zl (fX12_isRest_B5 n s x0 x1 x2) n ((1 : Int32), (0 : Int32))) (fun w10 => if w10 = 0 ∨ w10 = 1 then some w10 else none)
theorem tX12_isRest {n : Nat} {c : Nat × Nat} {s : zs} {x0 : Int32} {x1 : Int32} {x2 : Int32} {r : Int32} (h : fX12_isRest n s x0 x1 x2 = some r) : zc 2 2507 [.int x0, .int x1, .int x2] (zS c s) (some (.int r)) (zS c s) := by
  refine zc_of (k := kX12_isRest) (rt := 2) (L := [some (.int x0), some (.int x1), some (.int x2), none, none]) zm_2507.1 rfl rfl (by decide) rfl rfl ?_
  unfold fX12_isRest at h
  refine zr_many 4 (pc' := 5) (L' := [some (.int x0), some (.int x1), some (.int x2), some (.int (1 : Int32)), some (.int (0 : Int32))]) (st' := []) (S1 := zS c s) rfl ?_
  obtain ⟨w10, g11, h⟩ := zp_inv h
  refine zr_wk [some (.int x0), some (.int x1), some (.int x2), some (.int (1 : Int32)), some (.int (0 : Int32))] ⟨rfl, rfl, rfl, rfl, rfl, trivial⟩ (zl_cert (Z := fun w5 => zr kX12_isRest 2 1 5 [some (.int x0), some (.int x1), some (.int x2), some (.int w5.1), some (.int w5.2)] [] (zS c s) _ _) (Y := (fun z => zr kX12_isRest 2 1 44 [none, none, none, some (.int z), none] [] (zS c s) _ _)) (fun w o h1 h2 h3 => tX12_isRest_B5 h1 h2 h3) n _ _ g11 ?_)
  show zr kX12_isRest 2 1 44 [none, none, none, some (.int w10), none] [] (zS c s) _ _
  refine zr_many 1 (pc' := 45) (L' := [none, none, none, some (.int w10), none]) (st' := [.int w10]) (S1 := zS c s) rfl ?_
  obtain ⟨gz, h⟩ := zt_inv h
  obtain rfl := Option.some.inj h
  exact zq_zret rfl gz
def fX12_rests_J84 (n : Nat) (s : zs) (x1 : Int32) (x2 : Int32) (x3 : Int32) (x4 : Int32) : Option ((Int32 × Int32 × zs) ⊕ (Int32 × zs)) := some (Sum.inl (x2, (x4 + (1 : Int32)), s))
theorem tX12_rests_J84 {n : Nat} {c : Nat × Nat} {s : zs} {x1 : Int32} {x2 : Int32} {x3 : Int32} {x4 : Int32} {o : _} {v : Option Value} {S' : zi_S} (h : fX12_rests_J84 n s x1 x2 x3 x4 = some o) (hn : ∀ w37, o = Sum.inl w37 → zr kX12_rests 1 2 37 [some (.ref 161), some (.int x1), some (.int w37.1), some (.int x3), some (.int w37.2.1)] [] (zS c w37.2.2) v S') (hx : ∀ z, o = Sum.inr z → (fun z => zr kX12_rests 1 2 90 [some (.ref 161), some (.int x1), some (.int z.1), some (.int x3), none] [] (zS c z.2) v S') z) : zr kX12_rests 1 2 84 [some (.ref 161), some (.int x1), some (.int x2), some (.int x3), some (.int x4)] [] (zS c s) v S' := by
  unfold fX12_rests_J84 at h
  refine zr_many 2 (pc' := 37) (L' := [some (.ref 161), some (.int x1), some (.int x2), some (.int x3), some (.int (x4 + (1 : Int32)))]) (st' := []) (S1 := zS c s) rfl ?_
  obtain rfl := Option.some.inj h
  exact zr_wk [some (.ref 161), some (.int x1), some (.int x2), some (.int x3), some (.int (x4 + (1 : Int32)))] ⟨rfl, rfl, rfl, rfl, rfl, trivial⟩ (hn (x2, (x4 + (1 : Int32)), s) rfl)
def fX12_rests_J81 (n : Nat) (s : zs) (x1 : Int32) (x2 : Int32) (x3 : Int32) (x4 : Int32) : Option ((Int32 × Int32 × zs) ⊕ (Int32 × zs)) := fX12_rests_J84 n s x1 (x2 + (1 : Int32)) x3 x4
theorem tX12_rests_J81 {n : Nat} {c : Nat × Nat} {s : zs} {x1 : Int32} {x2 : Int32} {x3 : Int32} {x4 : Int32} {o : _} {v : Option Value} {S' : zi_S} (h : fX12_rests_J81 n s x1 x2 x3 x4 = some o) (hn : ∀ w37, o = Sum.inl w37 → zr kX12_rests 1 2 37 [some (.ref 161), some (.int x1), some (.int w37.1), some (.int x3), some (.int w37.2.1)] [] (zS c w37.2.2) v S') (hx : ∀ z, o = Sum.inr z → (fun z => zr kX12_rests 1 2 90 [some (.ref 161), some (.int x1), some (.int z.1), some (.int x3), none] [] (zS c z.2) v S') z) : zr kX12_rests 1 2 81 [some (.ref 161), some (.int x1), some (.int x2), some (.int x3), some (.int x4)] [] (zS c s) v S' := by
  unfold fX12_rests_J81 at h
  refine zr_many 1 (pc' := 84) (L' := [some (.ref 161), some (.int x1), some (.int (x2 + (1 : Int32))), some (.int x3), some (.int x4)]) (st' := []) (S1 := zS c s) rfl ?_
  exact zr_wk [some (.ref 161), some (.int x1), some (.int (x2 + (1 : Int32))), some (.int x3), some (.int x4)] ⟨rfl, rfl, rfl, rfl, rfl, trivial⟩ (tX12_rests_J84 h hn hx)
def fX12_rests_B37 (n : Nat) (x1 : Int32) (x3 : Int32) (w37 : Int32 × Int32 × zs) : Option ((Int32 × Int32 × zs) ⊕ (Int32 × zs)) := if (9 : Int32) < w37.2.1 then some (Sum.inr (w37.1, w37.2.2)) else zp (fX12_isRest n w37.2.2 x3 w37.2.1 x1) (fun r9 => if r9 = 0 then fX12_rests_J84 n w37.2.2 x1 w37.1 x3 w37.2.1 else zp (fX12_isRest n w37.2.2 w37.2.1 x3 x1) (fun r13 => if r13 = 0 then fX12_rests_J84 n w37.2.2 x1 w37.1 x3 w37.2.1 else if ¬ w37.1 = 0 then fX12_rests_J81 n w37.2.2 x1 w37.1 x3 w37.2.1 else zp (fX12_enters n w37.2.2 x3.toInt64) (fun s19 => zp (fX12_enters n s19 w37.2.1.toInt64) (fun s22 => fX12_rests_J81 n s22 x1 w37.1 x3 w37.2.1))))
theorem tX12_rests_B37 {n : Nat} {c : Nat × Nat} {x1 : Int32} {x3 : Int32} {w37 : Int32 × Int32 × zs} {o : _} {v : Option Value} {S' : zi_S} (h : fX12_rests_B37 n x1 x3 w37 = some o) (hn : ∀ w37, o = Sum.inl w37 → zr kX12_rests 1 2 37 [some (.ref 161), some (.int x1), some (.int w37.1), some (.int x3), some (.int w37.2.1)] [] (zS c w37.2.2) v S') (hx : ∀ z, o = Sum.inr z → (fun z => zr kX12_rests 1 2 90 [some (.ref 161), some (.int x1), some (.int z.1), some (.int x3), none] [] (zS c z.2) v S') z) : zr kX12_rests 1 2 37 [some (.ref 161), some (.int x1), some (.int w37.1), some (.int x3), some (.int w37.2.1)] [] (zS c w37.2.2) v S' := by
  unfold fX12_rests_B37 at h
  refine zr_many 2 (pc' := 41) (L' := [some (.ref 161), some (.int x1), some (.int w37.1), some (.int x3), some (.int w37.2.1)]) (st' := [.int (9 : Int32), .int w37.2.1]) (S1 := zS c w37.2.2) rfl ?_
  refine zq_if2 (b := (9 : Int32) < w37.2.1) rfl Iff.rfl rfl (fun g8 => ?_) (fun g8 => ?_)
  · rw [if_pos g8] at h
    obtain rfl := Option.some.inj h
    exact zr_wk [some (.ref 161), some (.int x1), some (.int w37.1), some (.int x3), none] ⟨rfl, rfl, rfl, rfl, trivial⟩ (hx (w37.1, w37.2.2) rfl)
  · rw [if_neg g8] at h
    refine zr_many 3 (pc' := 48) (L' := [some (.ref 161), some (.int x1), some (.int w37.1), some (.int x3), some (.int w37.2.1)]) (st' := [.int x1, .int w37.2.1, .int x3]) (S1 := zS c w37.2.2) rfl ?_
    obtain ⟨r9, g11, h⟩ := zp_inv h
    refine zq_scall1 rfl (by decide) rfl rfl (tX12_isRest g11) rfl ?_
    refine zq_if1 (b := r9 = 0) rfl Iff.rfl rfl (fun g12 => ?_) (fun g12 => ?_)
    · rw [if_pos g12] at h
      exact zr_wk [some (.ref 161), some (.int x1), some (.int w37.1), some (.int x3), some (.int w37.2.1)] ⟨rfl, rfl, rfl, rfl, rfl, trivial⟩ (tX12_rests_J84 h hn hx)
    · rw [if_neg g12] at h
      refine zr_many 3 (pc' := 58) (L' := [some (.ref 161), some (.int x1), some (.int w37.1), some (.int x3), some (.int w37.2.1)]) (st' := [.int x1, .int x3, .int w37.2.1]) (S1 := zS c w37.2.2) rfl ?_
      obtain ⟨r13, g15, h⟩ := zp_inv h
      refine zq_scall1 rfl (by decide) rfl rfl (tX12_isRest g15) rfl ?_
      refine zq_if1 (b := r13 = 0) rfl Iff.rfl rfl (fun g16 => ?_) (fun g16 => ?_)
      · rw [if_pos g16] at h
        exact zr_wk [some (.ref 161), some (.int x1), some (.int w37.1), some (.int x3), some (.int w37.2.1)] ⟨rfl, rfl, rfl, rfl, rfl, trivial⟩ (tX12_rests_J84 h hn hx)
      · rw [if_neg g16] at h
        refine zr_many 1 (pc' := 65) (L' := [some (.ref 161), some (.int x1), some (.int w37.1), some (.int x3), some (.int w37.2.1)]) (st' := [.int w37.1]) (S1 := zS c w37.2.2) rfl ?_
        refine zq_if1 (b := ¬ w37.1 = 0) rfl Iff.rfl rfl (fun g17 => ?_) (fun g17 => ?_)
        · rw [if_pos g17] at h
          exact zr_wk [some (.ref 161), some (.int x1), some (.int w37.1), some (.int x3), some (.int w37.2.1)] ⟨rfl, rfl, rfl, rfl, rfl, trivial⟩ (tX12_rests_J81 h hn hx)
        · rw [if_neg g17] at h
          refine zr_many 3 (pc' := 71) (L' := [some (.ref 161), some (.int x1), some (.int w37.1), some (.int x3), some (.int w37.2.1)]) (st' := [.long x3.toInt64, .ref 161]) (S1 := zS c w37.2.2) rfl ?_
          obtain ⟨s19, g20, h⟩ := zp_inv h
          refine zq_call0 rfl rfl (zh_161 _) rfl rfl rfl ((tX12_enters g20).up (by decide)) rfl ?_
          refine zr_many 3 (pc' := 78) (L' := [some (.ref 161), some (.int x1), some (.int w37.1), some (.int x3), some (.int w37.2.1)]) (st' := [.long w37.2.1.toInt64, .ref 161]) (S1 := zS c s19) rfl ?_
          obtain ⟨s22, g23, h⟩ := zp_inv h
          refine zq_call0 rfl rfl (zh_161 _) rfl rfl rfl ((tX12_enters g23).up (by decide)) rfl ?_
          exact zr_wk [some (.ref 161), some (.int x1), some (.int w37.1), some (.int x3), some (.int w37.2.1)] ⟨rfl, rfl, rfl, rfl, rfl, trivial⟩ (tX12_rests_J81 h hn hx)
def fX12_rests_B28 (n : Nat) (x1 : Int32) (w28 : Int32 × Int32 × zs) : Option ((Int32 × Int32 × zs) ⊕ (Int32 × zs)) := if (9 : Int32) < w28.2.1 then some (Sum.inr (w28.1, w28.2.2)) else zp (zl (fX12_rests_B37 n x1 w28.2.1) n (w28.1, (0 : Int32), w28.2.2)) (fun w24 => some (Sum.inl (w24.1, (w28.2.1 + (1 : Int32)), w24.2)))
theorem tX12_rests_B28 {n : Nat} {c : Nat × Nat} {x1 : Int32} {w28 : Int32 × Int32 × zs} {o : _} {v : Option Value} {S' : zi_S} (h : fX12_rests_B28 n x1 w28 = some o) (hn : ∀ w28, o = Sum.inl w28 → zr kX12_rests 1 2 28 [some (.ref 161), some (.int x1), some (.int w28.1), some (.int w28.2.1), none] [] (zS c w28.2.2) v S') (hx : ∀ z, o = Sum.inr z → (fun z => zr kX12_rests 1 2 96 [none, none, some (.int z.1), none, none] [] (zS c z.2) v S') z) : zr kX12_rests 1 2 28 [some (.ref 161), some (.int x1), some (.int w28.1), some (.int w28.2.1), none] [] (zS c w28.2.2) v S' := by
  unfold fX12_rests_B28 at h
  refine zr_many 2 (pc' := 31) (L' := [some (.ref 161), some (.int x1), some (.int w28.1), some (.int w28.2.1), none]) (st' := [.int (9 : Int32), .int w28.2.1]) (S1 := zS c w28.2.2) rfl ?_
  refine zq_if2 (b := (9 : Int32) < w28.2.1) rfl Iff.rfl rfl (fun g7 => ?_) (fun g7 => ?_)
  · rw [if_pos g7] at h
    obtain rfl := Option.some.inj h
    exact zr_wk [none, none, some (.int w28.1), none, none] ⟨rfl, trivial⟩ (hx (w28.1, w28.2.2) rfl)
  · rw [if_neg g7] at h
    refine zr_many 2 (pc' := 37) (L' := [some (.ref 161), some (.int x1), some (.int w28.1), some (.int w28.2.1), some (.int (0 : Int32))]) (st' := []) (S1 := zS c w28.2.2) rfl ?_
    obtain ⟨w24, g25, h⟩ := zp_inv h
    refine zr_wk [some (.ref 161), some (.int x1), some (.int w28.1), some (.int w28.2.1), some (.int (0 : Int32))] ⟨rfl, rfl, rfl, rfl, rfl, trivial⟩ (zl_cert (Z := fun w37 => zr kX12_rests 1 2 37 [some (.ref 161), some (.int x1), some (.int w37.1), some (.int w28.2.1), some (.int w37.2.1)] [] (zS c w37.2.2) _ _) (Y := (fun z => zr kX12_rests 1 2 90 [some (.ref 161), some (.int x1), some (.int z.1), some (.int w28.2.1), none] [] (zS c z.2) _ _)) (fun w o h1 h2 h3 => tX12_rests_B37 h1 h2 h3) n _ _ g25 ?_)
    show zr kX12_rests 1 2 90 [some (.ref 161), some (.int x1), some (.int w24.1), some (.int w28.2.1), none] [] (zS c w24.2) _ _
    refine zr_many 2 (pc' := 28) (L' := [some (.ref 161), some (.int x1), some (.int w24.1), some (.int (w28.2.1 + (1 : Int32))), none]) (st' := []) (S1 := zS c w24.2) rfl ?_
    obtain rfl := Option.some.inj h
    exact zr_wk [some (.ref 161), some (.int x1), some (.int w24.1), some (.int (w28.2.1 + (1 : Int32))), none] ⟨rfl, rfl, rfl, rfl, trivial⟩ (hn (w24.1, (w28.2.1 + (1 : Int32)), w24.2) rfl)
def fX12_rests (n : Nat) (s : zs) (x1 : Int32) : Option (Int32 × zs) := zp (fX12_in n (zsi s 161 0 (0 : Int32)) x1.toInt64 (0 : Int64) (9 : Int64)) (fun r1 => if ¬ r1 = 0 then zt (zsi s 161 0 (0 : Int32)) (fun s5 => zp (zl (fX12_rests_B28 n x1) n ((0 : Int32), (0 : Int32), (zsi s5 161 1 (0 : Int32)))) (fun w26 => some (w26.1, w26.2))) else some ((-1 : Int32), (zsi s 161 0 (0 : Int32))))
theorem tX12_rests {n : Nat} {c : Nat × Nat} {s : zs} {x1 : Int32} {r : Int32} {s' : zs} (h : fX12_rests n s x1 = some (r, s')) : zc 3 2508 [.ref 161, .int x1] (zS c s) (some (.int r)) (zS c s') := by
  refine zc_of (k := kX12_rests) (rt := 1) (L := [some (.ref 161), some (.int x1), none, none, none]) zm_2508.1 rfl rfl (by decide) rfl rfl ?_
  unfold fX12_rests at h
  refine zr_many 2 (pc' := 2) (L' := [some (.ref 161), some (.int x1), none, none, none]) (st' := [.int (0 : Int32), .ref 161]) (S1 := zS c s) rfl ?_
  refine zq_put (s' := (zsi s 161 0 (0 : Int32))) rfl (zh_161 _) rfl rfl rfl rfl zsi_ne rfl ?_
  refine zr_many 4 (pc' := 11) (L' := [some (.ref 161), some (.int x1), none, none, none]) (st' := [.long (9 : Int64), .long (0 : Int64), .long x1.toInt64]) (S1 := zS c (zsi s 161 0 (0 : Int32))) rfl ?_
  obtain ⟨r1, g3, h⟩ := zp_inv h
  refine zq_scall1 rfl (by decide) rfl rfl ((tX12_in g3).up (by decide)) rfl ?_
  refine zq_if1 (b := ¬ r1 = 0) rfl Iff.rfl rfl (fun g4 => ?_) (fun g4 => ?_)
  · rw [if_pos g4] at h
    refine zr_many 4 (pc' := 23) (L' := [some (.ref 161), some (.int x1), some (.int (0 : Int32)), none, none]) (st' := [.int (0 : Int32), .ref 161]) (S1 := zS c (zsi s 161 0 (0 : Int32))) rfl ?_
    obtain ⟨s5, e6, h⟩ := zt_in h
    rw [← e6]
    refine zq_put (s' := (zsi s5 161 1 (0 : Int32))) rfl (zh_161 _) rfl rfl rfl rfl zsi_ne rfl ?_
    refine zr_many 2 (pc' := 28) (L' := [some (.ref 161), some (.int x1), some (.int (0 : Int32)), some (.int (0 : Int32)), none]) (st' := []) (S1 := zS c (zsi s5 161 1 (0 : Int32))) rfl ?_
    obtain ⟨w26, g27, h⟩ := zp_inv h
    refine zr_wk [some (.ref 161), some (.int x1), some (.int (0 : Int32)), some (.int (0 : Int32)), none] ⟨rfl, rfl, rfl, rfl, trivial⟩ (zl_cert (Z := fun w28 => zr kX12_rests 1 2 28 [some (.ref 161), some (.int x1), some (.int w28.1), some (.int w28.2.1), none] [] (zS c w28.2.2) _ _) (Y := (fun z => zr kX12_rests 1 2 96 [none, none, some (.int z.1), none, none] [] (zS c z.2) _ _)) (fun w o h1 h2 h3 => tX12_rests_B28 h1 h2 h3) n _ _ g27 ?_)
    show zr kX12_rests 1 2 96 [none, none, some (.int w26.1), none, none] [] (zS c w26.2) _ _
    refine zr_many 1 (pc' := 97) (L' := [none, none, some (.int w26.1), none, none]) (st' := [.int w26.1]) (S1 := zS c w26.2) rfl ?_
    obtain ⟨rfl, rfl⟩ := Prod.mk.inj (Option.some.inj h)
    exact zq_iret rfl
  · rw [if_neg g4] at h
    refine zr_many 1 (pc' := 18) (L' := [some (.ref 161), some (.int x1), none, none, none]) (st' := [.int (-1 : Int32)]) (S1 := zS c (zsi s 161 0 (0 : Int32))) rfl ?_
    obtain ⟨rfl, rfl⟩ := Prod.mk.inj (Option.some.inj h)
    exact zq_iret rfl
def fX12_pays_J106 (n : Nat) (s : zs) (x1 : Int32) (x2 : Int32) (x3 : Int32) (x4 : Int32) (x5 : Int32) (x6 : Int32) (y0 : Int32) : Option ((Int32 × Int32 × zs) ⊕ (Int32 × zs)) := zp (fX12_enters n s y0.toInt64) (fun s27 => some (Sum.inl ((if x5 < y0 then y0 else x5), (x6 + (1 : Int32)), s27)))
theorem tX12_pays_J106 {n : Nat} {c : Nat × Nat} {s : zs} {x1 : Int32} {x2 : Int32} {x3 : Int32} {x4 : Int32} {x5 : Int32} {x6 : Int32} {y0 : Int32} {o : _} {v : Option Value} {S' : zi_S} (h : fX12_pays_J106 n s x1 x2 x3 x4 x5 x6 y0 = some o) (hn : ∀ w57, o = Sum.inl w57 → zr kX12_pays 1 10 57 [some (.ref 161), some (.int x1), some (.int x2), some (.int x3), some (.int x4), some (.int w57.1), some (.int w57.2.1), none, none] [] (zS c w57.2.2) v S') (hx : ∀ z, o = Sum.inr z → (fun z => zr kX12_pays 1 10 130 [none, none, none, none, none, some (.int z.1), none, none, none] [] (zS c z.2) v S') z) : zr kX12_pays 1 10 106 [some (.ref 161), some (.int x1), some (.int x2), some (.int x3), some (.int x4), some (.int x5), some (.int x6), none, none] [.int y0] (zS c s) v S' := by
  unfold fX12_pays_J106 at h
  refine zr_many 8 (pc' := 121) (L' := [some (.ref 161), some (.int x1), some (.int x2), some (.int x3), some (.int x4), some (.int (if x5 < y0 then y0 else x5)), some (.int x6), none, some (.int y0)]) (st' := [.long y0.toInt64, .ref 161]) (S1 := zS c s) rfl ?_
  obtain ⟨s27, g28, h⟩ := zp_inv h
  refine zq_call0 rfl rfl (zh_161 _) rfl rfl rfl ((tX12_enters g28).up (by decide)) rfl ?_
  refine zr_many 2 (pc' := 57) (L' := [some (.ref 161), some (.int x1), some (.int x2), some (.int x3), some (.int x4), some (.int (if x5 < y0 then y0 else x5)), some (.int (x6 + (1 : Int32))), none, some (.int y0)]) (st' := []) (S1 := zS c s27) rfl ?_
  obtain rfl := Option.some.inj h
  exact zr_wk [some (.ref 161), some (.int x1), some (.int x2), some (.int x3), some (.int x4), some (.int (if x5 < y0 then y0 else x5)), some (.int (x6 + (1 : Int32))), none, none] ⟨rfl, rfl, rfl, rfl, rfl, rfl, rfl, trivial⟩ (hn ((if x5 < y0 then y0 else x5), (x6 + (1 : Int32)), s27) rfl)
def fX12_pays_B57 (n : Nat) (x1 : Int32) (x2 : Int32) (x3 : Int32) (x4 : Int32) (w57 : Int32 × Int32 × zs) : Option ((Int32 × Int32 × zs) ⊕ (Int32 × zs)) := if (w57.2.2.1 161 4) ≤ w57.2.1 then some (Sum.inr (w57.1, w57.2.2)) else zb (fX12_voicesOf n w57.2.2 x1 x2 (x3 &&& (((1 : Int32) <<< (w57.2.1 &&& 31)) ^^^ (-1 : Int32)))) (fun r16 s17 => if 0 ≤ r16 then zp (fX12_fees n s17 r16) (fun r20 => zp (fX12_fees n s17 x4) (fun r23 => fX12_pays_J106 n s17 x1 x2 x3 x4 w57.1 w57.2.1 (r20 - r23))) else fX12_pays_J106 n s17 x1 x2 x3 x4 w57.1 w57.2.1 (9999 : Int32))
theorem tX12_pays_B57 {n : Nat} {c : Nat × Nat} {x1 : Int32} {x2 : Int32} {x3 : Int32} {x4 : Int32} {w57 : Int32 × Int32 × zs} {o : _} {v : Option Value} {S' : zi_S} (h : fX12_pays_B57 n x1 x2 x3 x4 w57 = some o) (hn : ∀ w57, o = Sum.inl w57 → zr kX12_pays 1 10 57 [some (.ref 161), some (.int x1), some (.int x2), some (.int x3), some (.int x4), some (.int w57.1), some (.int w57.2.1), none, none] [] (zS c w57.2.2) v S') (hx : ∀ z, o = Sum.inr z → (fun z => zr kX12_pays 1 10 130 [none, none, none, none, none, some (.int z.1), none, none, none] [] (zS c z.2) v S') z) : zr kX12_pays 1 10 57 [some (.ref 161), some (.int x1), some (.int x2), some (.int x3), some (.int x4), some (.int w57.1), some (.int w57.2.1), none, none] [] (zS c w57.2.2) v S' := by
  unfold fX12_pays_B57 at h
  refine zr_many 2 (pc' := 60) (L' := [some (.ref 161), some (.int x1), some (.int x2), some (.int x3), some (.int x4), some (.int w57.1), some (.int w57.2.1), none, none]) (st' := [.ref 161, .int w57.2.1]) (S1 := zS c w57.2.2) rfl ?_
  refine zq_get rfl (zh_161 _) rfl rfl rfl ?_
  refine zq_if2 (b := (w57.2.2.1 161 4) ≤ w57.2.1) rfl Iff.rfl rfl (fun g15 => ?_) (fun g15 => ?_)
  · rw [if_pos g15] at h
    obtain rfl := Option.some.inj h
    exact zr_wk [none, none, none, none, none, some (.int w57.1), none, none, none] ⟨rfl, trivial⟩ (hx (w57.1, w57.2.2) rfl)
  · rw [if_neg g15] at h
    refine zr_many 10 (pc' := 77) (L' := [some (.ref 161), some (.int x1), some (.int x2), some (.int x3), some (.int x4), some (.int w57.1), some (.int w57.2.1), none, none]) (st' := [.int (x3 &&& (((1 : Int32) <<< (w57.2.1 &&& 31)) ^^^ (-1 : Int32))), .int x2, .int x1, .ref 161]) (S1 := zS c w57.2.2) rfl ?_
    obtain ⟨r16, s17, g18, h⟩ := zb_inv h
    refine zq_call1 rfl rfl (zh_161 _) rfl rfl rfl (tX12_voicesOf g18) rfl ?_
    refine zr_many 2 (pc' := 84) (L' := [some (.ref 161), some (.int x1), some (.int x2), some (.int x3), some (.int x4), some (.int w57.1), some (.int w57.2.1), some (.int r16), none]) (st' := [.int r16]) (S1 := zS c s17) rfl ?_
    refine zq_if1 (b := 0 ≤ r16) rfl Iff.rfl rfl (fun g19 => ?_) (fun g19 => ?_)
    · rw [if_pos g19] at h
      refine zr_many 2 (pc' := 96) (L' := [some (.ref 161), some (.int x1), some (.int x2), some (.int x3), some (.int x4), some (.int w57.1), some (.int w57.2.1), some (.int r16), none]) (st' := [.int r16, .ref 161]) (S1 := zS c s17) rfl ?_
      obtain ⟨r20, g22, h⟩ := zp_inv h
      refine zq_call1 rfl rfl (zh_161 _) rfl rfl rfl ((tX12_fees g22).up (by decide)) rfl ?_
      refine zr_many 2 (pc' := 102) (L' := [some (.ref 161), some (.int x1), some (.int x2), some (.int x3), some (.int x4), some (.int w57.1), some (.int w57.2.1), some (.int r16), none]) (st' := [.int x4, .ref 161, .int r20]) (S1 := zS c s17) rfl ?_
      obtain ⟨r23, g25, h⟩ := zp_inv h
      refine zq_call1 rfl rfl (zh_161 _) rfl rfl rfl ((tX12_fees g25).up (by decide)) rfl ?_
      refine zr_many 1 (pc' := 106) (L' := [some (.ref 161), some (.int x1), some (.int x2), some (.int x3), some (.int x4), some (.int w57.1), some (.int w57.2.1), some (.int r16), none]) (st' := [.int (r20 - r23)]) (S1 := zS c s17) rfl ?_
      exact zr_wk [some (.ref 161), some (.int x1), some (.int x2), some (.int x3), some (.int x4), some (.int w57.1), some (.int w57.2.1), none, none] ⟨rfl, rfl, rfl, rfl, rfl, rfl, rfl, trivial⟩ (tX12_pays_J106 h hn hx)
    · rw [if_neg g19] at h
      refine zr_many 2 (pc' := 106) (L' := [some (.ref 161), some (.int x1), some (.int x2), some (.int x3), some (.int x4), some (.int w57.1), some (.int w57.2.1), some (.int r16), none]) (st' := [.int (9999 : Int32)]) (S1 := zS c s17) rfl ?_
      exact zr_wk [some (.ref 161), some (.int x1), some (.int x2), some (.int x3), some (.int x4), some (.int w57.1), some (.int w57.2.1), none, none] ⟨rfl, rfl, rfl, rfl, rfl, rfl, rfl, trivial⟩ (tX12_pays_J106 h hn hx)
def fX12_pays (n : Nat) (s : zs) (x1 : Int32) (x2 : Int32) : Option (Int32 × zs) := zp (fX12_isPair n (zsi s 161 0 (0 : Int32)) x1 x2) (fun r1 => if ¬ r1 = 0 then zp (fX12_placeOf n (zsi s 161 0 (0 : Int32)) 169 x1) (fun r5 => zp (fX12_freeAt n (zsi s 161 0 (0 : Int32)) r5) (fun r8 => zb (fX12_voicesOf n (zsi s 161 0 (0 : Int32)) x1 x2 r8) (fun r11 s12 => if 0 ≤ r11 then zp (zl (fX12_pays_B57 n x1 x2 r8 r11) n ((0 : Int32), (0 : Int32), (zsi s12 161 1 (0 : Int32)))) (fun w29 => some (w29.1, w29.2)) else some ((-2 : Int32), s12)))) else some ((-1 : Int32), (zsi s 161 0 (0 : Int32))))
theorem tX12_pays {n : Nat} {c : Nat × Nat} {s : zs} {x1 : Int32} {x2 : Int32} {r : Int32} {s' : zs} (h : fX12_pays n s x1 x2 = some (r, s')) : zc 11 2509 [.ref 161, .int x1, .int x2] (zS c s) (some (.int r)) (zS c s') := by
  refine zc_of (k := kX12_pays) (rt := 1) (L := [some (.ref 161), some (.int x1), some (.int x2), none, none, none, none, none, none]) zm_2509.1 rfl rfl (by decide) rfl rfl ?_
  unfold fX12_pays at h
  refine zr_many 2 (pc' := 2) (L' := [some (.ref 161), some (.int x1), some (.int x2), none, none, none, none, none, none]) (st' := [.int (0 : Int32), .ref 161]) (S1 := zS c s) rfl ?_
  refine zq_put (s' := (zsi s 161 0 (0 : Int32))) rfl (zh_161 _) rfl rfl rfl rfl zsi_ne rfl ?_
  refine zr_many 3 (pc' := 8) (L' := [some (.ref 161), some (.int x1), some (.int x2), none, none, none, none, none, none]) (st' := [.int x2, .int x1, .ref 161]) (S1 := zS c (zsi s 161 0 (0 : Int32))) rfl ?_
  obtain ⟨r1, g3, h⟩ := zp_inv h
  refine zq_call1 rfl rfl (zh_161 _) rfl rfl rfl ((tX12_isPair g3).up (by decide)) rfl ?_
  refine zq_if1 (b := ¬ r1 = 0) rfl Iff.rfl rfl (fun g4 => ?_) (fun g4 => ?_)
  · rw [if_pos g4] at h
    refine zr_many 2 (pc' := 18) (L' := [some (.ref 161), some (.int x1), some (.int x2), none, none, none, none, none, none]) (st' := [.ref 161, .ref 161]) (S1 := zS c (zsi s 161 0 (0 : Int32))) rfl ?_
    refine zq_get rfl (zh_161 _) rfl rfl rfl ?_
    refine zr_many 1 (pc' := 22) (L' := [some (.ref 161), some (.int x1), some (.int x2), none, none, none, none, none, none]) (st' := [.int x1, .ref 169, .ref 161]) (S1 := zS c (zsi s 161 0 (0 : Int32))) rfl ?_
    obtain ⟨r5, g7, h⟩ := zp_inv h
    refine zq_scall1 rfl (by decide) rfl rfl ((tX12_placeOf zR_n g7).up (by decide)) rfl ?_
    obtain ⟨r8, g10, h⟩ := zp_inv h
    refine zq_call1 rfl rfl (zh_161 _) rfl rfl rfl ((tX12_freeAt g10).up (by decide)) rfl ?_
    refine zr_many 5 (pc' := 33) (L' := [some (.ref 161), some (.int x1), some (.int x2), some (.int r8), none, none, none, none, none]) (st' := [.int r8, .int x2, .int x1, .ref 161]) (S1 := zS c (zsi s 161 0 (0 : Int32))) rfl ?_
    obtain ⟨r11, s12, g13, h⟩ := zb_inv h
    refine zq_call1 rfl rfl (zh_161 _) rfl rfl rfl (tX12_voicesOf g13) rfl ?_
    refine zr_many 2 (pc' := 40) (L' := [some (.ref 161), some (.int x1), some (.int x2), some (.int r8), some (.int r11), none, none, none, none]) (st' := [.int r11]) (S1 := zS c s12) rfl ?_
    refine zq_if1 (b := 0 ≤ r11) rfl Iff.rfl rfl (fun g14 => ?_) (fun g14 => ?_)
    · rw [if_pos g14] at h
      refine zr_many 4 (pc' := 51) (L' := [some (.ref 161), some (.int x1), some (.int x2), some (.int r8), some (.int r11), some (.int (0 : Int32)), none, none, none]) (st' := [.int (0 : Int32), .ref 161]) (S1 := zS c s12) rfl ?_
      refine zq_put (s' := (zsi s12 161 1 (0 : Int32))) rfl (zh_161 _) rfl rfl rfl rfl zsi_ne rfl ?_
      refine zr_many 2 (pc' := 57) (L' := [some (.ref 161), some (.int x1), some (.int x2), some (.int r8), some (.int r11), some (.int (0 : Int32)), some (.int (0 : Int32)), none, none]) (st' := []) (S1 := zS c (zsi s12 161 1 (0 : Int32))) rfl ?_
      obtain ⟨w29, g30, h⟩ := zp_inv h
      refine zr_wk [some (.ref 161), some (.int x1), some (.int x2), some (.int r8), some (.int r11), some (.int (0 : Int32)), some (.int (0 : Int32)), none, none] ⟨rfl, rfl, rfl, rfl, rfl, rfl, rfl, trivial⟩ (zl_cert (Z := fun w57 => zr kX12_pays 1 10 57 [some (.ref 161), some (.int x1), some (.int x2), some (.int r8), some (.int r11), some (.int w57.1), some (.int w57.2.1), none, none] [] (zS c w57.2.2) _ _) (Y := (fun z => zr kX12_pays 1 10 130 [none, none, none, none, none, some (.int z.1), none, none, none] [] (zS c z.2) _ _)) (fun w o h1 h2 h3 => tX12_pays_B57 h1 h2 h3) n _ _ g30 ?_)
      show zr kX12_pays 1 10 130 [none, none, none, none, none, some (.int w29.1), none, none, none] [] (zS c w29.2) _ _
      refine zr_many 1 (pc' := 132) (L' := [none, none, none, none, none, some (.int w29.1), none, none, none]) (st' := [.int w29.1]) (S1 := zS c w29.2) rfl ?_
      obtain ⟨rfl, rfl⟩ := Prod.mk.inj (Option.some.inj h)
      exact zq_iret rfl
    · rw [if_neg g14] at h
      refine zr_many 1 (pc' := 45) (L' := [some (.ref 161), some (.int x1), some (.int x2), some (.int r8), some (.int r11), none, none, none, none]) (st' := [.int (-2 : Int32)]) (S1 := zS c s12) rfl ?_
      obtain ⟨rfl, rfl⟩ := Prod.mk.inj (Option.some.inj h)
      exact zq_iret rfl
  · rw [if_neg g4] at h
    refine zr_many 1 (pc' := 15) (L' := [some (.ref 161), some (.int x1), some (.int x2), none, none, none, none, none, none]) (st' := [.int (-1 : Int32)]) (S1 := zS c (zsi s 161 0 (0 : Int32))) rfl ?_
    obtain ⟨rfl, rfl⟩ := Prod.mk.inj (Option.some.inj h)
    exact zq_iret rfl
def fX12_days_J24 (n : Nat) (s : zs) : Option (Int32 × zs) := some ((-1 : Int32), s)
theorem tX12_days_J24 {n : Nat} {c : Nat × Nat} {s : zs} {r : Int32} {s' : zs} (h : fX12_days_J24 n s = some (r, s')) : zr kX12_days 1 11 24 [none, none, none, none, none, none, none, none] [] (zS c s) (some (.int r)) (zS c s') := by
  unfold fX12_days_J24 at h
  refine zr_many 1 (pc' := 25) (L' := [none, none, none, none, none, none, none, none]) (st' := [.int (-1 : Int32)]) (S1 := zS c s) rfl ?_
  obtain ⟨rfl, rfl⟩ := Prod.mk.inj (Option.some.inj h)
  exact zq_iret rfl
def fX12_days_J132 (n : Nat) (s : zs) (x2 : Int32) (x3 : Int32) (x4 : Int32) (x5 : Int32) : Option ((Int32 × Int32 × Int32 × zs) ⊕ (Int32 × zs)) := some (Sum.inl (x3, x4, (x5 + (1 : Int32)), s))
theorem tX12_days_J132 {n : Nat} {c : Nat × Nat} {s : zs} {x2 : Int32} {x3 : Int32} {x4 : Int32} {x5 : Int32} {o : _} {v : Option Value} {S' : zi_S} (h : fX12_days_J132 n s x2 x3 x4 x5 = some o) (hn : ∀ w38, o = Sum.inl w38 → zr kX12_days 1 11 38 [some (.ref 161), none, some (.int x2), some (.int w38.1), some (.int w38.2.1), some (.int w38.2.2.1), none, none] [] (zS c w38.2.2.2) v S') (hx : ∀ z, o = Sum.inr z → (fun z => zr kX12_days 1 11 138 [some (.ref 161), none, none, none, some (.int z.1), none, none, none] [] (zS c z.2) v S') z) : zr kX12_days 1 11 132 [some (.ref 161), none, some (.int x2), some (.int x3), some (.int x4), some (.int x5), none, none] [] (zS c s) v S' := by
  unfold fX12_days_J132 at h
  refine zr_many 2 (pc' := 38) (L' := [some (.ref 161), none, some (.int x2), some (.int x3), some (.int x4), some (.int (x5 + (1 : Int32))), none, none]) (st' := []) (S1 := zS c s) rfl ?_
  obtain rfl := Option.some.inj h
  exact zr_wk [some (.ref 161), none, some (.int x2), some (.int x3), some (.int x4), some (.int (x5 + (1 : Int32))), none, none] ⟨rfl, rfl, rfl, rfl, rfl, trivial⟩ (hn (x3, x4, (x5 + (1 : Int32)), s) rfl)
def fX12_days_J126 (n : Nat) (s : zs) (x2 : Int32) (x3 : Int32) (x5 : Int32) (y0 : Int32) (y1 : Int32) : Option ((Int32 × Int32 × Int32 × zs) ⊕ (Int32 × zs)) := zp (fX12_flag n s y1) (fun r15 => fX12_days_J132 n s x2 x3 (y0 + r15) x5)
theorem tX12_days_J126 {n : Nat} {c : Nat × Nat} {s : zs} {x2 : Int32} {x3 : Int32} {x5 : Int32} {y0 : Int32} {y1 : Int32} {o : _} {v : Option Value} {S' : zi_S} (h : fX12_days_J126 n s x2 x3 x5 y0 y1 = some o) (hn : ∀ w38, o = Sum.inl w38 → zr kX12_days 1 11 38 [some (.ref 161), none, some (.int x2), some (.int w38.1), some (.int w38.2.1), some (.int w38.2.2.1), none, none] [] (zS c w38.2.2.2) v S') (hx : ∀ z, o = Sum.inr z → (fun z => zr kX12_days 1 11 138 [some (.ref 161), none, none, none, some (.int z.1), none, none, none] [] (zS c z.2) v S') z) : zr kX12_days 1 11 126 [some (.ref 161), none, some (.int x2), some (.int x3), none, some (.int x5), none, none] [.int y1, .int y0] (zS c s) v S' := by
  unfold fX12_days_J126 at h
  obtain ⟨r15, g17, h⟩ := zp_inv h
  refine zq_scall1 rfl (by decide) rfl rfl ((tX12_flag g17).up (by decide)) rfl ?_
  refine zr_many 2 (pc' := 132) (L' := [some (.ref 161), none, some (.int x2), some (.int x3), some (.int (y0 + r15)), some (.int x5), none, none]) (st' := []) (S1 := zS c s) rfl ?_
  exact zr_wk [some (.ref 161), none, some (.int x2), some (.int x3), some (.int (y0 + r15)), some (.int x5), none, none] ⟨rfl, rfl, rfl, rfl, rfl, trivial⟩ (tX12_days_J132 h hn hx)
def fX12_days_B38 (n : Nat) (x2 : Int32) (w38 : Int32 × Int32 × Int32 × zs) : Option ((Int32 × Int32 × Int32 × zs) ⊕ (Int32 × zs)) := if x2 ≤ w38.2.2.1 then some (Sum.inr (w38.2.1, w38.2.2.2)) else if (w38.2.2.2.1 161 5) = 0 then none else (if ¬ ((((((w38.1 * (1103515245 : Int32)) + (12345 : Int32)) * (1103515245 : Int32)) + (12345 : Int32)).toUInt32 >>> ((16 : Int32).toUInt32 &&& Int32.toUInt32 31)).toInt32 - (((((w38.1 * (1103515245 : Int32)) + (12345 : Int32)) * (1103515245 : Int32)) + (12345 : Int32)).toUInt32 >>> ((16 : Int32).toUInt32 &&& Int32.toUInt32 31)).toInt32 / (3 : Int32) * (3 : Int32)) = (2 : Int32) then zb (fX12_passes n w38.2.2.2 170 ((((w38.1 * (1103515245 : Int32)) + (12345 : Int32)).toUInt32 >>> ((16 : Int32).toUInt32 &&& Int32.toUInt32 31)).toInt32 - (((w38.1 * (1103515245 : Int32)) + (12345 : Int32)).toUInt32 >>> ((16 : Int32).toUInt32 &&& Int32.toUInt32 31)).toInt32 / (w38.2.2.2.1 161 5) * (w38.2.2.2.1 161 5)) ((1 : Int32) - ((((((w38.1 * (1103515245 : Int32)) + (12345 : Int32)) * (1103515245 : Int32)) + (12345 : Int32)).toUInt32 >>> ((16 : Int32).toUInt32 &&& Int32.toUInt32 31)).toInt32 - (((((w38.1 * (1103515245 : Int32)) + (12345 : Int32)) * (1103515245 : Int32)) + (12345 : Int32)).toUInt32 >>> ((16 : Int32).toUInt32 &&& Int32.toUInt32 31)).toInt32 / (3 : Int32) * (3 : Int32)))) (fun r11 s12 => if r11 < 0 then fX12_days_J126 n s12 x2 ((((w38.1 * (1103515245 : Int32)) + (12345 : Int32)) * (1103515245 : Int32)) + (12345 : Int32)) w38.2.2.1 w38.2.1 (0 : Int32) else fX12_days_J126 n s12 x2 ((((w38.1 * (1103515245 : Int32)) + (12345 : Int32)) * (1103515245 : Int32)) + (12345 : Int32)) w38.2.2.1 w38.2.1 (1 : Int32)) else zp (fX12_restsFor n w38.2.2.2 170 (10 : Int32)) (fun s19 => fX12_days_J132 n s19 x2 ((((w38.1 * (1103515245 : Int32)) + (12345 : Int32)) * (1103515245 : Int32)) + (12345 : Int32)) w38.2.1 w38.2.2.1))
theorem tX12_days_B38 {n : Nat} {c : Nat × Nat} {x2 : Int32} {w38 : Int32 × Int32 × Int32 × zs} {o : _} {v : Option Value} {S' : zi_S} (h : fX12_days_B38 n x2 w38 = some o) (hn : ∀ w38, o = Sum.inl w38 → zr kX12_days 1 11 38 [some (.ref 161), none, some (.int x2), some (.int w38.1), some (.int w38.2.1), some (.int w38.2.2.1), none, none] [] (zS c w38.2.2.2) v S') (hx : ∀ z, o = Sum.inr z → (fun z => zr kX12_days 1 11 138 [some (.ref 161), none, none, none, some (.int z.1), none, none, none] [] (zS c z.2) v S') z) : zr kX12_days 1 11 38 [some (.ref 161), none, some (.int x2), some (.int w38.1), some (.int w38.2.1), some (.int w38.2.2.1), none, none] [] (zS c w38.2.2.2) v S' := by
  unfold fX12_days_B38 at h
  refine zr_many 2 (pc' := 41) (L' := [some (.ref 161), none, some (.int x2), some (.int w38.1), some (.int w38.2.1), some (.int w38.2.2.1), none, none]) (st' := [.int x2, .int w38.2.2.1]) (S1 := zS c w38.2.2.2) rfl ?_
  refine zq_if2 (b := x2 ≤ w38.2.2.1) rfl Iff.rfl rfl (fun g9 => ?_) (fun g9 => ?_)
  · rw [if_pos g9] at h
    obtain rfl := Option.some.inj h
    exact zr_wk [some (.ref 161), none, none, none, some (.int w38.2.1), none, none, none] ⟨rfl, rfl, trivial⟩ (hx (w38.2.1, w38.2.2.2) rfl)
  · rw [if_neg g9] at h
    refine zr_many 10 (pc' := 59) (L' := [some (.ref 161), none, some (.int x2), some (.int ((w38.1 * (1103515245 : Int32)) + (12345 : Int32))), some (.int w38.2.1), some (.int w38.2.2.1), none, none]) (st' := [.ref 161, .int (((w38.1 * (1103515245 : Int32)) + (12345 : Int32)).toUInt32 >>> ((16 : Int32).toUInt32 &&& Int32.toUInt32 31)).toInt32]) (S1 := zS c w38.2.2.2) rfl ?_
    refine zq_get rfl (zh_161 _) rfl rfl rfl ?_
    obtain ⟨g21, h⟩ := zn_inv h
    refine zq_irem rfl g21 rfl ?_
    refine zr_many 11 (pc' := 80) (L' := [some (.ref 161), none, some (.int x2), some (.int ((((w38.1 * (1103515245 : Int32)) + (12345 : Int32)) * (1103515245 : Int32)) + (12345 : Int32))), some (.int w38.2.1), some (.int w38.2.2.1), some (.int ((((w38.1 * (1103515245 : Int32)) + (12345 : Int32)).toUInt32 >>> ((16 : Int32).toUInt32 &&& Int32.toUInt32 31)).toInt32 - (((w38.1 * (1103515245 : Int32)) + (12345 : Int32)).toUInt32 >>> ((16 : Int32).toUInt32 &&& Int32.toUInt32 31)).toInt32 / (w38.2.2.2.1 161 5) * (w38.2.2.2.1 161 5))), none]) (st' := [.int (3 : Int32), .int (((((w38.1 * (1103515245 : Int32)) + (12345 : Int32)) * (1103515245 : Int32)) + (12345 : Int32)).toUInt32 >>> ((16 : Int32).toUInt32 &&& Int32.toUInt32 31)).toInt32]) (S1 := zS c w38.2.2.2) rfl ?_
    refine zq_irem rfl (by decide) rfl ?_
    refine zr_many 3 (pc' := 86) (L' := [some (.ref 161), none, some (.int x2), some (.int ((((w38.1 * (1103515245 : Int32)) + (12345 : Int32)) * (1103515245 : Int32)) + (12345 : Int32))), some (.int w38.2.1), some (.int w38.2.2.1), some (.int ((((w38.1 * (1103515245 : Int32)) + (12345 : Int32)).toUInt32 >>> ((16 : Int32).toUInt32 &&& Int32.toUInt32 31)).toInt32 - (((w38.1 * (1103515245 : Int32)) + (12345 : Int32)).toUInt32 >>> ((16 : Int32).toUInt32 &&& Int32.toUInt32 31)).toInt32 / (w38.2.2.2.1 161 5) * (w38.2.2.2.1 161 5))), some (.int ((((((w38.1 * (1103515245 : Int32)) + (12345 : Int32)) * (1103515245 : Int32)) + (12345 : Int32)).toUInt32 >>> ((16 : Int32).toUInt32 &&& Int32.toUInt32 31)).toInt32 - (((((w38.1 * (1103515245 : Int32)) + (12345 : Int32)) * (1103515245 : Int32)) + (12345 : Int32)).toUInt32 >>> ((16 : Int32).toUInt32 &&& Int32.toUInt32 31)).toInt32 / (3 : Int32) * (3 : Int32)))]) (st' := [.int (2 : Int32), .int ((((((w38.1 * (1103515245 : Int32)) + (12345 : Int32)) * (1103515245 : Int32)) + (12345 : Int32)).toUInt32 >>> ((16 : Int32).toUInt32 &&& Int32.toUInt32 31)).toInt32 - (((((w38.1 * (1103515245 : Int32)) + (12345 : Int32)) * (1103515245 : Int32)) + (12345 : Int32)).toUInt32 >>> ((16 : Int32).toUInt32 &&& Int32.toUInt32 31)).toInt32 / (3 : Int32) * (3 : Int32))]) (S1 := zS c w38.2.2.2) rfl ?_
    refine zq_if2 (b := ¬ ((((((w38.1 * (1103515245 : Int32)) + (12345 : Int32)) * (1103515245 : Int32)) + (12345 : Int32)).toUInt32 >>> ((16 : Int32).toUInt32 &&& Int32.toUInt32 31)).toInt32 - (((((w38.1 * (1103515245 : Int32)) + (12345 : Int32)) * (1103515245 : Int32)) + (12345 : Int32)).toUInt32 >>> ((16 : Int32).toUInt32 &&& Int32.toUInt32 31)).toInt32 / (3 : Int32) * (3 : Int32)) = (2 : Int32)) rfl Iff.rfl rfl (fun g10 => ?_) (fun g10 => ?_)
    · rw [if_pos g10] at h
      refine zr_many 3 (pc' := 106) (L' := [some (.ref 161), none, some (.int x2), some (.int ((((w38.1 * (1103515245 : Int32)) + (12345 : Int32)) * (1103515245 : Int32)) + (12345 : Int32))), some (.int w38.2.1), some (.int w38.2.2.1), some (.int ((((w38.1 * (1103515245 : Int32)) + (12345 : Int32)).toUInt32 >>> ((16 : Int32).toUInt32 &&& Int32.toUInt32 31)).toInt32 - (((w38.1 * (1103515245 : Int32)) + (12345 : Int32)).toUInt32 >>> ((16 : Int32).toUInt32 &&& Int32.toUInt32 31)).toInt32 / (w38.2.2.2.1 161 5) * (w38.2.2.2.1 161 5))), some (.int ((((((w38.1 * (1103515245 : Int32)) + (12345 : Int32)) * (1103515245 : Int32)) + (12345 : Int32)).toUInt32 >>> ((16 : Int32).toUInt32 &&& Int32.toUInt32 31)).toInt32 - (((((w38.1 * (1103515245 : Int32)) + (12345 : Int32)) * (1103515245 : Int32)) + (12345 : Int32)).toUInt32 >>> ((16 : Int32).toUInt32 &&& Int32.toUInt32 31)).toInt32 / (3 : Int32) * (3 : Int32)))]) (st' := [.ref 161, .ref 161, .int w38.2.1]) (S1 := zS c w38.2.2.2) rfl ?_
      refine zq_get rfl (zh_161 _) rfl rfl rfl ?_
      refine zr_many 4 (pc' := 115) (L' := [some (.ref 161), none, some (.int x2), some (.int ((((w38.1 * (1103515245 : Int32)) + (12345 : Int32)) * (1103515245 : Int32)) + (12345 : Int32))), some (.int w38.2.1), some (.int w38.2.2.1), some (.int ((((w38.1 * (1103515245 : Int32)) + (12345 : Int32)).toUInt32 >>> ((16 : Int32).toUInt32 &&& Int32.toUInt32 31)).toInt32 - (((w38.1 * (1103515245 : Int32)) + (12345 : Int32)).toUInt32 >>> ((16 : Int32).toUInt32 &&& Int32.toUInt32 31)).toInt32 / (w38.2.2.2.1 161 5) * (w38.2.2.2.1 161 5))), some (.int ((((((w38.1 * (1103515245 : Int32)) + (12345 : Int32)) * (1103515245 : Int32)) + (12345 : Int32)).toUInt32 >>> ((16 : Int32).toUInt32 &&& Int32.toUInt32 31)).toInt32 - (((((w38.1 * (1103515245 : Int32)) + (12345 : Int32)) * (1103515245 : Int32)) + (12345 : Int32)).toUInt32 >>> ((16 : Int32).toUInt32 &&& Int32.toUInt32 31)).toInt32 / (3 : Int32) * (3 : Int32)))]) (st' := [.int ((1 : Int32) - ((((((w38.1 * (1103515245 : Int32)) + (12345 : Int32)) * (1103515245 : Int32)) + (12345 : Int32)).toUInt32 >>> ((16 : Int32).toUInt32 &&& Int32.toUInt32 31)).toInt32 - (((((w38.1 * (1103515245 : Int32)) + (12345 : Int32)) * (1103515245 : Int32)) + (12345 : Int32)).toUInt32 >>> ((16 : Int32).toUInt32 &&& Int32.toUInt32 31)).toInt32 / (3 : Int32) * (3 : Int32))), .int ((((w38.1 * (1103515245 : Int32)) + (12345 : Int32)).toUInt32 >>> ((16 : Int32).toUInt32 &&& Int32.toUInt32 31)).toInt32 - (((w38.1 * (1103515245 : Int32)) + (12345 : Int32)).toUInt32 >>> ((16 : Int32).toUInt32 &&& Int32.toUInt32 31)).toInt32 / (w38.2.2.2.1 161 5) * (w38.2.2.2.1 161 5)), .ref 170, .ref 161, .int w38.2.1]) (S1 := zS c w38.2.2.2) rfl ?_
      obtain ⟨r11, s12, g13, h⟩ := zb_inv h
      refine zq_call1 rfl rfl (zh_161 _) rfl rfl rfl (tX12_passes zR_t g13) rfl ?_
      refine zq_if1 (b := r11 < 0) rfl Iff.rfl rfl (fun g14 => ?_) (fun g14 => ?_)
      · rw [if_pos g14] at h
        refine zr_many 1 (pc' := 126) (L' := [some (.ref 161), none, some (.int x2), some (.int ((((w38.1 * (1103515245 : Int32)) + (12345 : Int32)) * (1103515245 : Int32)) + (12345 : Int32))), some (.int w38.2.1), some (.int w38.2.2.1), some (.int ((((w38.1 * (1103515245 : Int32)) + (12345 : Int32)).toUInt32 >>> ((16 : Int32).toUInt32 &&& Int32.toUInt32 31)).toInt32 - (((w38.1 * (1103515245 : Int32)) + (12345 : Int32)).toUInt32 >>> ((16 : Int32).toUInt32 &&& Int32.toUInt32 31)).toInt32 / (w38.2.2.2.1 161 5) * (w38.2.2.2.1 161 5))), some (.int ((((((w38.1 * (1103515245 : Int32)) + (12345 : Int32)) * (1103515245 : Int32)) + (12345 : Int32)).toUInt32 >>> ((16 : Int32).toUInt32 &&& Int32.toUInt32 31)).toInt32 - (((((w38.1 * (1103515245 : Int32)) + (12345 : Int32)) * (1103515245 : Int32)) + (12345 : Int32)).toUInt32 >>> ((16 : Int32).toUInt32 &&& Int32.toUInt32 31)).toInt32 / (3 : Int32) * (3 : Int32)))]) (st' := [.int (0 : Int32), .int w38.2.1]) (S1 := zS c s12) rfl ?_
        exact zr_wk [some (.ref 161), none, some (.int x2), some (.int ((((w38.1 * (1103515245 : Int32)) + (12345 : Int32)) * (1103515245 : Int32)) + (12345 : Int32))), none, some (.int w38.2.2.1), none, none] ⟨rfl, rfl, rfl, rfl, trivial⟩ (tX12_days_J126 h hn hx)
      · rw [if_neg g14] at h
        refine zr_many 2 (pc' := 126) (L' := [some (.ref 161), none, some (.int x2), some (.int ((((w38.1 * (1103515245 : Int32)) + (12345 : Int32)) * (1103515245 : Int32)) + (12345 : Int32))), some (.int w38.2.1), some (.int w38.2.2.1), some (.int ((((w38.1 * (1103515245 : Int32)) + (12345 : Int32)).toUInt32 >>> ((16 : Int32).toUInt32 &&& Int32.toUInt32 31)).toInt32 - (((w38.1 * (1103515245 : Int32)) + (12345 : Int32)).toUInt32 >>> ((16 : Int32).toUInt32 &&& Int32.toUInt32 31)).toInt32 / (w38.2.2.2.1 161 5) * (w38.2.2.2.1 161 5))), some (.int ((((((w38.1 * (1103515245 : Int32)) + (12345 : Int32)) * (1103515245 : Int32)) + (12345 : Int32)).toUInt32 >>> ((16 : Int32).toUInt32 &&& Int32.toUInt32 31)).toInt32 - (((((w38.1 * (1103515245 : Int32)) + (12345 : Int32)) * (1103515245 : Int32)) + (12345 : Int32)).toUInt32 >>> ((16 : Int32).toUInt32 &&& Int32.toUInt32 31)).toInt32 / (3 : Int32) * (3 : Int32)))]) (st' := [.int (1 : Int32), .int w38.2.1]) (S1 := zS c s12) rfl ?_
        exact zr_wk [some (.ref 161), none, some (.int x2), some (.int ((((w38.1 * (1103515245 : Int32)) + (12345 : Int32)) * (1103515245 : Int32)) + (12345 : Int32))), none, some (.int w38.2.2.1), none, none] ⟨rfl, rfl, rfl, rfl, trivial⟩ (tX12_days_J126 h hn hx)
    · rw [if_neg g10] at h
      refine zr_many 2 (pc' := 91) (L' := [some (.ref 161), none, some (.int x2), some (.int ((((w38.1 * (1103515245 : Int32)) + (12345 : Int32)) * (1103515245 : Int32)) + (12345 : Int32))), some (.int w38.2.1), some (.int w38.2.2.1), some (.int ((((w38.1 * (1103515245 : Int32)) + (12345 : Int32)).toUInt32 >>> ((16 : Int32).toUInt32 &&& Int32.toUInt32 31)).toInt32 - (((w38.1 * (1103515245 : Int32)) + (12345 : Int32)).toUInt32 >>> ((16 : Int32).toUInt32 &&& Int32.toUInt32 31)).toInt32 / (w38.2.2.2.1 161 5) * (w38.2.2.2.1 161 5))), some (.int ((((((w38.1 * (1103515245 : Int32)) + (12345 : Int32)) * (1103515245 : Int32)) + (12345 : Int32)).toUInt32 >>> ((16 : Int32).toUInt32 &&& Int32.toUInt32 31)).toInt32 - (((((w38.1 * (1103515245 : Int32)) + (12345 : Int32)) * (1103515245 : Int32)) + (12345 : Int32)).toUInt32 >>> ((16 : Int32).toUInt32 &&& Int32.toUInt32 31)).toInt32 / (3 : Int32) * (3 : Int32)))]) (st' := [.ref 161, .ref 161]) (S1 := zS c w38.2.2.2) rfl ?_
      refine zq_get rfl (zh_161 _) rfl rfl rfl ?_
      refine zr_many 1 (pc' := 96) (L' := [some (.ref 161), none, some (.int x2), some (.int ((((w38.1 * (1103515245 : Int32)) + (12345 : Int32)) * (1103515245 : Int32)) + (12345 : Int32))), some (.int w38.2.1), some (.int w38.2.2.1), some (.int ((((w38.1 * (1103515245 : Int32)) + (12345 : Int32)).toUInt32 >>> ((16 : Int32).toUInt32 &&& Int32.toUInt32 31)).toInt32 - (((w38.1 * (1103515245 : Int32)) + (12345 : Int32)).toUInt32 >>> ((16 : Int32).toUInt32 &&& Int32.toUInt32 31)).toInt32 / (w38.2.2.2.1 161 5) * (w38.2.2.2.1 161 5))), some (.int ((((((w38.1 * (1103515245 : Int32)) + (12345 : Int32)) * (1103515245 : Int32)) + (12345 : Int32)).toUInt32 >>> ((16 : Int32).toUInt32 &&& Int32.toUInt32 31)).toInt32 - (((((w38.1 * (1103515245 : Int32)) + (12345 : Int32)) * (1103515245 : Int32)) + (12345 : Int32)).toUInt32 >>> ((16 : Int32).toUInt32 &&& Int32.toUInt32 31)).toInt32 / (3 : Int32) * (3 : Int32)))]) (st' := [.int (10 : Int32), .ref 170, .ref 161]) (S1 := zS c w38.2.2.2) rfl ?_
      obtain ⟨s19, g20, h⟩ := zp_inv h
      refine zq_call0 rfl rfl (zh_161 _) rfl rfl rfl ((tX12_restsFor zR_t g20).up (by decide)) rfl ?_
      refine zr_many 1 (pc' := 132) (L' := [some (.ref 161), none, some (.int x2), some (.int ((((w38.1 * (1103515245 : Int32)) + (12345 : Int32)) * (1103515245 : Int32)) + (12345 : Int32))), some (.int w38.2.1), some (.int w38.2.2.1), some (.int ((((w38.1 * (1103515245 : Int32)) + (12345 : Int32)).toUInt32 >>> ((16 : Int32).toUInt32 &&& Int32.toUInt32 31)).toInt32 - (((w38.1 * (1103515245 : Int32)) + (12345 : Int32)).toUInt32 >>> ((16 : Int32).toUInt32 &&& Int32.toUInt32 31)).toInt32 / (w38.2.2.2.1 161 5) * (w38.2.2.2.1 161 5))), some (.int ((((((w38.1 * (1103515245 : Int32)) + (12345 : Int32)) * (1103515245 : Int32)) + (12345 : Int32)).toUInt32 >>> ((16 : Int32).toUInt32 &&& Int32.toUInt32 31)).toInt32 - (((((w38.1 * (1103515245 : Int32)) + (12345 : Int32)) * (1103515245 : Int32)) + (12345 : Int32)).toUInt32 >>> ((16 : Int32).toUInt32 &&& Int32.toUInt32 31)).toInt32 / (3 : Int32) * (3 : Int32)))]) (st' := []) (S1 := zS c s19) rfl ?_
      exact zr_wk [some (.ref 161), none, some (.int x2), some (.int ((((w38.1 * (1103515245 : Int32)) + (12345 : Int32)) * (1103515245 : Int32)) + (12345 : Int32))), some (.int w38.2.1), some (.int w38.2.2.1), none, none] ⟨rfl, rfl, rfl, rfl, rfl, trivial⟩ (tX12_days_J132 h hn hx)
def fX12_days (n : Nat) (s : zs) (x1 : Int32) (x2 : Int32) : Option (Int32 × zs) := zp (fX12_in n (zsi s 161 0 (0 : Int32)) x2.toInt64 (1 : Int64) (60 : Int64)) (fun r1 => if r1 = 0 then fX12_days_J24 n (zsi s 161 0 (0 : Int32)) else if ¬ ((zsi s 161 0 (0 : Int32)).1 161 5) = 0 then zp (fX12_puts n (zsi s 161 0 (0 : Int32))) (fun s7 => zp (zl (fX12_days_B38 n x2) n (x1, (0 : Int32), (0 : Int32), s7)) (fun w22 => zp (fX12_enters n (zsi w22.2 161 1 (0 : Int32)) ((((zsi w22.2 161 1 (0 : Int32)).1 170 9) - ((zsi w22.2 161 1 (0 : Int32)).1 169 9)).toInt64)) (fun s26 => zp (fX12_enters n s26 ((s26.1 170 8).toInt64)) (fun s30 => some (w22.1, s30))))) else fX12_days_J24 n (zsi s 161 0 (0 : Int32)))
theorem tX12_days {n : Nat} {c : Nat × Nat} {s : zs} {x1 : Int32} {x2 : Int32} {r : Int32} {s' : zs} (h : fX12_days n s x1 x2 = some (r, s')) : zc 12 2510 [.ref 161, .int x1, .int x2] (zS c s) (some (.int r)) (zS c s') := by
  refine zc_of (k := kX12_days) (rt := 1) (L := [some (.ref 161), some (.int x1), some (.int x2), none, none, none, none, none]) zm_2510.1 rfl rfl (by decide) rfl rfl ?_
  unfold fX12_days at h
  refine zr_many 2 (pc' := 2) (L' := [some (.ref 161), some (.int x1), some (.int x2), none, none, none, none, none]) (st' := [.int (0 : Int32), .ref 161]) (S1 := zS c s) rfl ?_
  refine zq_put (s' := (zsi s 161 0 (0 : Int32))) rfl (zh_161 _) rfl rfl rfl rfl zsi_ne rfl ?_
  refine zr_many 4 (pc' := 11) (L' := [some (.ref 161), some (.int x1), some (.int x2), none, none, none, none, none]) (st' := [.long (60 : Int64), .long (1 : Int64), .long x2.toInt64]) (S1 := zS c (zsi s 161 0 (0 : Int32))) rfl ?_
  obtain ⟨r1, g3, h⟩ := zp_inv h
  refine zq_scall1 rfl (by decide) rfl rfl ((tX12_in g3).up (by decide)) rfl ?_
  refine zq_if1 (b := r1 = 0) rfl Iff.rfl rfl (fun g4 => ?_) (fun g4 => ?_)
  · rw [if_pos g4] at h
    exact zr_wk [none, none, none, none, none, none, none, none] trivial (tX12_days_J24 h)
  · rw [if_neg g4] at h
    refine zr_many 1 (pc' := 18) (L' := [some (.ref 161), some (.int x1), some (.int x2), none, none, none, none, none]) (st' := [.ref 161]) (S1 := zS c (zsi s 161 0 (0 : Int32))) rfl ?_
    refine zq_get rfl (zh_161 _) rfl rfl rfl ?_
    refine zq_if1 (b := ¬ ((zsi s 161 0 (0 : Int32)).1 161 5) = 0) rfl Iff.rfl rfl (fun g5 => ?_) (fun g5 => ?_)
    · rw [if_pos g5] at h
      refine zr_many 5 (pc' := 32) (L' := [some (.ref 161), some (.int x1), some (.int x2), some (.int x1), some (.int (0 : Int32)), none, none, none]) (st' := [.ref 161]) (S1 := zS c (zsi s 161 0 (0 : Int32))) rfl ?_
      obtain ⟨s7, g8, h⟩ := zp_inv h
      refine zq_call0 rfl rfl (zh_161 _) rfl rfl rfl ((tX12_puts g8).up (by decide)) rfl ?_
      refine zr_many 2 (pc' := 38) (L' := [some (.ref 161), some (.int x1), some (.int x2), some (.int x1), some (.int (0 : Int32)), some (.int (0 : Int32)), none, none]) (st' := []) (S1 := zS c s7) rfl ?_
      obtain ⟨w22, g32, h⟩ := zp_inv h
      refine zr_wk [some (.ref 161), none, some (.int x2), some (.int x1), some (.int (0 : Int32)), some (.int (0 : Int32)), none, none] ⟨rfl, rfl, rfl, rfl, rfl, trivial⟩ (zl_cert (Z := fun w38 => zr kX12_days 1 11 38 [some (.ref 161), none, some (.int x2), some (.int w38.1), some (.int w38.2.1), some (.int w38.2.2.1), none, none] [] (zS c w38.2.2.2) _ _) (Y := (fun z => zr kX12_days 1 11 138 [some (.ref 161), none, none, none, some (.int z.1), none, none, none] [] (zS c z.2) _ _)) (fun w o h1 h2 h3 => tX12_days_B38 h1 h2 h3) n _ _ g32 ?_)
      show zr kX12_days 1 11 138 [some (.ref 161), none, none, none, some (.int w22.1), none, none, none] [] (zS c w22.2) _ _
      refine zr_many 2 (pc' := 140) (L' := [some (.ref 161), none, none, none, some (.int w22.1), none, none, none]) (st' := [.int (0 : Int32), .ref 161]) (S1 := zS c w22.2) rfl ?_
      refine zq_put (s' := (zsi w22.2 161 1 (0 : Int32))) rfl (zh_161 _) rfl rfl rfl rfl zsi_ne rfl ?_
      refine zr_many 2 (pc' := 145) (L' := [some (.ref 161), none, none, none, some (.int w22.1), none, none, none]) (st' := [.ref 161, .ref 161]) (S1 := zS c (zsi w22.2 161 1 (0 : Int32))) rfl ?_
      refine zq_get rfl (zh_161 _) rfl rfl rfl ?_
      refine zr_many 1 (pc' := 150) (L' := [some (.ref 161), none, none, none, some (.int w22.1), none, none, none]) (st' := [.int (9 : Int32), .ref 170, .ref 161]) (S1 := zS c (zsi w22.2 161 1 (0 : Int32))) rfl ?_
      refine zq_ild rfl (zh_170 _) rfl (by decide) rfl ?_
      refine zr_many 1 (pc' := 152) (L' := [some (.ref 161), none, none, none, some (.int w22.1), none, none, none]) (st' := [.ref 161, .int ((zsi w22.2 161 1 (0 : Int32)).1 170 9), .ref 161]) (S1 := zS c (zsi w22.2 161 1 (0 : Int32))) rfl ?_
      refine zq_get rfl (zh_161 _) rfl rfl rfl ?_
      refine zr_many 1 (pc' := 157) (L' := [some (.ref 161), none, none, none, some (.int w22.1), none, none, none]) (st' := [.int (9 : Int32), .ref 169, .int ((zsi w22.2 161 1 (0 : Int32)).1 170 9), .ref 161]) (S1 := zS c (zsi w22.2 161 1 (0 : Int32))) rfl ?_
      refine zq_ild rfl (zh_169 _) rfl (by decide) rfl ?_
      refine zr_many 2 (pc' := 160) (L' := [some (.ref 161), none, none, none, some (.int w22.1), none, none, none]) (st' := [.long (((zsi w22.2 161 1 (0 : Int32)).1 170 9) - ((zsi w22.2 161 1 (0 : Int32)).1 169 9)).toInt64, .ref 161]) (S1 := zS c (zsi w22.2 161 1 (0 : Int32))) rfl ?_
      obtain ⟨s26, g27, h⟩ := zp_inv h
      refine zq_call0 rfl rfl (zh_161 _) rfl rfl rfl ((tX12_enters g27).up (by decide)) rfl ?_
      refine zr_many 2 (pc' := 165) (L' := [some (.ref 161), none, none, none, some (.int w22.1), none, none, none]) (st' := [.ref 161, .ref 161]) (S1 := zS c s26) rfl ?_
      refine zq_get rfl (zh_161 _) rfl rfl rfl ?_
      refine zr_many 1 (pc' := 170) (L' := [some (.ref 161), none, none, none, some (.int w22.1), none, none, none]) (st' := [.int (8 : Int32), .ref 170, .ref 161]) (S1 := zS c s26) rfl ?_
      refine zq_ild rfl (zh_170 _) rfl (by decide) rfl ?_
      refine zr_many 1 (pc' := 172) (L' := [some (.ref 161), none, none, none, some (.int w22.1), none, none, none]) (st' := [.long (s26.1 170 8).toInt64, .ref 161]) (S1 := zS c s26) rfl ?_
      obtain ⟨s30, g31, h⟩ := zp_inv h
      refine zq_call0 rfl rfl (zh_161 _) rfl rfl rfl ((tX12_enters g31).up (by decide)) rfl ?_
      refine zr_many 1 (pc' := 177) (L' := [some (.ref 161), none, none, none, some (.int w22.1), none, none, none]) (st' := [.int w22.1]) (S1 := zS c s30) rfl ?_
      obtain ⟨rfl, rfl⟩ := Prod.mk.inj (Option.some.inj h)
      exact zq_iret rfl
    · rw [if_neg g5] at h
      exact zr_wk [none, none, none, none, none, none, none, none] trivial (tX12_days_J24 h)
def fX12_keep_B38 (n : Nat) (x1 : Int32) (w38 : Int32 × zs) : Option ((Int32 × zs) ⊕ (zs)) := if (42 : Int32) ≤ w38.1 then some (Sum.inr w38.2) else cond (zi_in w38.1 42) (cond (zi_in (((42 : Int32) * x1) + w38.1) 126) (some (Sum.inl ((w38.1 + (1 : Int32)), (zsi w38.2 190 (((42 : Int32) * x1) + w38.1).toNatClampNeg (w38.2.1 169 w38.1.toNatClampNeg))))) none) none
theorem tX12_keep_B38 {n : Nat} {c : Nat × Nat} {x1 : Int32} {w38 : Int32 × zs} {o : _} {v : Option Value} {S' : zi_S} (h : fX12_keep_B38 n x1 w38 = some o) (hn : ∀ w38, o = Sum.inl w38 → zr kX12_keep 2 1 38 [some (.ref 161), some (.int x1), some (.int w38.1)] [] (zS c w38.2) v S') (hx : ∀ z, o = Sum.inr z → (fun z => zr kX12_keep 2 1 67 [none, none, none] [] (zS c z) v S') z) : zr kX12_keep 2 1 38 [some (.ref 161), some (.int x1), some (.int w38.1)] [] (zS c w38.2) v S' := by
  unfold fX12_keep_B38 at h
  refine zr_many 2 (pc' := 41) (L' := [some (.ref 161), some (.int x1), some (.int w38.1)]) (st' := [.int (42 : Int32), .int w38.1]) (S1 := zS c w38.2) rfl ?_
  refine zq_if2 (b := (42 : Int32) ≤ w38.1) rfl Iff.rfl rfl (fun g9 => ?_) (fun g9 => ?_)
  · rw [if_pos g9] at h
    obtain rfl := Option.some.inj h
    exact zr_wk [none, none, none] trivial (hx w38.2 rfl)
  · rw [if_neg g9] at h
    refine zr_many 1 (pc' := 45) (L' := [some (.ref 161), some (.int x1), some (.int w38.1)]) (st' := [.ref 161]) (S1 := zS c w38.2) rfl ?_
    refine zq_get rfl (zh_161 _) rfl rfl rfl ?_
    refine zr_many 6 (pc' := 55) (L' := [some (.ref 161), some (.int x1), some (.int w38.1)]) (st' := [.ref 161, .int (((42 : Int32) * x1) + w38.1), .ref 190]) (S1 := zS c w38.2) rfl ?_
    refine zq_get rfl (zh_161 _) rfl rfl rfl ?_
    refine zr_many 1 (pc' := 59) (L' := [some (.ref 161), some (.int x1), some (.int w38.1)]) (st' := [.int w38.1, .ref 169, .int (((42 : Int32) * x1) + w38.1), .ref 190]) (S1 := zS c w38.2) rfl ?_
    obtain ⟨g10, h⟩ := zi_cond_inv h
    refine zq_ild rfl (zh_169 _) rfl g10 rfl ?_
    obtain ⟨g11, h⟩ := zi_cond_inv h
    refine zq_ist rfl zh_190 rfl g11 rfl ?_
    refine zr_many 2 (pc' := 38) (L' := [some (.ref 161), some (.int x1), some (.int (w38.1 + (1 : Int32)))]) (st' := []) (S1 := zS c (zsi w38.2 190 (((42 : Int32) * x1) + w38.1).toNatClampNeg (w38.2.1 169 w38.1.toNatClampNeg))) rfl ?_
    obtain rfl := Option.some.inj h
    exact zr_wk [some (.ref 161), some (.int x1), some (.int (w38.1 + (1 : Int32)))] ⟨rfl, rfl, rfl, trivial⟩ (hn ((w38.1 + (1 : Int32)), (zsi w38.2 190 (((42 : Int32) * x1) + w38.1).toNatClampNeg (w38.2.1 169 w38.1.toNatClampNeg))) rfl)
def fX12_keep (n : Nat) (s : zs) (x1 : Int32) : Option (Int32 × zs) := zp (fX12_in n (zsi s 161 0 (0 : Int32)) x1.toInt64 (0 : Int64) (2 : Int64)) (fun r1 => if ¬ r1 = 0 then zt (zsi s 161 0 (0 : Int32)) (fun s5 => cond (zi_in x1 3) (zt (zsi s5 188 x1.toNatClampNeg (vp_nar .boolean (1 : Int32))) (fun s7 => cond (zi_in x1 3) (zp (zl (fX12_keep_B38 n x1) n ((0 : Int32), (zsi s7 189 x1.toNatClampNeg (s7.1 161 7)))) (fun w12 => some ((1 : Int32), w12))) none)) none) else some ((0 : Int32), (zsi s 161 0 (0 : Int32))))
theorem tX12_keep {n : Nat} {c : Nat × Nat} {s : zs} {x1 : Int32} {r : Int32} {s' : zs} (h : fX12_keep n s x1 = some (r, s')) : zc 2 2511 [.ref 161, .int x1] (zS c s) (some (.int r)) (zS c s') := by
  refine zc_of (k := kX12_keep) (rt := 2) (L := [some (.ref 161), some (.int x1), none]) zm_2511.1 rfl rfl (by decide) rfl rfl ?_
  unfold fX12_keep at h
  refine zr_many 2 (pc' := 2) (L' := [some (.ref 161), some (.int x1), none]) (st' := [.int (0 : Int32), .ref 161]) (S1 := zS c s) rfl ?_
  refine zq_put (s' := (zsi s 161 0 (0 : Int32))) rfl (zh_161 _) rfl rfl rfl rfl zsi_ne rfl ?_
  refine zr_many 4 (pc' := 11) (L' := [some (.ref 161), some (.int x1), none]) (st' := [.long (2 : Int64), .long (0 : Int64), .long x1.toInt64]) (S1 := zS c (zsi s 161 0 (0 : Int32))) rfl ?_
  obtain ⟨r1, g3, h⟩ := zp_inv h
  refine zq_scall1 rfl (by decide) rfl rfl (tX12_in g3) rfl ?_
  refine zq_if1 (b := ¬ r1 = 0) rfl Iff.rfl rfl (fun g4 => ?_) (fun g4 => ?_)
  · rw [if_pos g4] at h
    refine zr_many 1 (pc' := 20) (L' := [some (.ref 161), some (.int x1), none]) (st' := [.ref 161]) (S1 := zS c (zsi s 161 0 (0 : Int32))) rfl ?_
    refine zq_get rfl (zh_161 _) rfl rfl rfl ?_
    refine zr_many 2 (pc' := 25) (L' := [some (.ref 161), some (.int x1), none]) (st' := [.int (1 : Int32), .int x1, .ref 188]) (S1 := zS c (zsi s 161 0 (0 : Int32))) rfl ?_
    obtain ⟨s5, e6, h⟩ := zt_in h
    rw [← e6]
    obtain ⟨g14, h⟩ := zi_cond_inv h
    refine zq_zst rfl zh_188 rfl g14 rfl ?_
    refine zr_many 1 (pc' := 27) (L' := [some (.ref 161), some (.int x1), none]) (st' := [.ref 161]) (S1 := zS c (zsi s5 188 x1.toNatClampNeg (vp_nar .boolean (1 : Int32)))) rfl ?_
    refine zq_get rfl (zh_161 _) rfl rfl rfl ?_
    refine zr_many 2 (pc' := 32) (L' := [some (.ref 161), some (.int x1), none]) (st' := [.ref 161, .int x1, .ref 189]) (S1 := zS c (zsi s5 188 x1.toNatClampNeg (vp_nar .boolean (1 : Int32)))) rfl ?_
    refine zq_get rfl (zh_161 _) rfl rfl rfl ?_
    obtain ⟨s7, e8, h⟩ := zt_in h
    rw [← e8]
    obtain ⟨g15, h⟩ := zi_cond_inv h
    refine zq_ist rfl zh_189 rfl g15 rfl ?_
    refine zr_many 2 (pc' := 38) (L' := [some (.ref 161), some (.int x1), some (.int (0 : Int32))]) (st' := []) (S1 := zS c (zsi s7 189 x1.toNatClampNeg (s7.1 161 7))) rfl ?_
    obtain ⟨w12, g13, h⟩ := zp_inv h
    refine zr_wk [some (.ref 161), some (.int x1), some (.int (0 : Int32))] ⟨rfl, rfl, rfl, trivial⟩ (zl_cert (Z := fun w38 => zr kX12_keep 2 1 38 [some (.ref 161), some (.int x1), some (.int w38.1)] [] (zS c w38.2) _ _) (Y := (fun z => zr kX12_keep 2 1 67 [none, none, none] [] (zS c z) _ _)) (fun w o h1 h2 h3 => tX12_keep_B38 h1 h2 h3) n _ _ g13 ?_)
    show zr kX12_keep 2 1 67 [none, none, none] [] (zS c w12) _ _
    refine zr_many 1 (pc' := 68) (L' := [none, none, none]) (st' := [.int (1 : Int32)]) (S1 := zS c w12) rfl ?_
    obtain ⟨rfl, rfl⟩ := Prod.mk.inj (Option.some.inj h)
    exact zq_zret rfl (by decide)
  · rw [if_neg g4] at h
    refine zr_many 1 (pc' := 18) (L' := [some (.ref 161), some (.int x1), none]) (st' := [.int (0 : Int32)]) (S1 := zS c (zsi s 161 0 (0 : Int32))) rfl ?_
    obtain ⟨rfl, rfl⟩ := Prod.mk.inj (Option.some.inj h)
    exact zq_zret rfl (by decide)
def fX12_again_J39 (n : Nat) (s : zs) : Option (Int32 × zs) := some ((0 : Int32), s)
theorem tX12_again_J39 {n : Nat} {c : Nat × Nat} {s : zs} {r : Int32} {s' : zs} (h : fX12_again_J39 n s = some (r, s')) : zr kX12_again 2 1 39 [none, none, none] [] (zS c s) (some (.int r)) (zS c s') := by
  unfold fX12_again_J39 at h
  refine zr_many 1 (pc' := 40) (L' := [none, none, none]) (st' := [.int (0 : Int32)]) (S1 := zS c s) rfl ?_
  obtain ⟨rfl, rfl⟩ := Prod.mk.inj (Option.some.inj h)
  exact zq_zret rfl (by decide)
def fX12_again_B43 (n : Nat) (x1 : Int32) (w43 : Int32 × zs) : Option ((Int32 × zs) ⊕ (zs)) := if (42 : Int32) ≤ w43.1 then some (Sum.inr w43.2) else cond (zi_in (((42 : Int32) * x1) + w43.1) 126) (cond (zi_in w43.1 42) (some (Sum.inl ((w43.1 + (1 : Int32)), (zsi w43.2 169 w43.1.toNatClampNeg (w43.2.1 190 (((42 : Int32) * x1) + w43.1).toNatClampNeg))))) none) none
theorem tX12_again_B43 {n : Nat} {c : Nat × Nat} {x1 : Int32} {w43 : Int32 × zs} {o : _} {v : Option Value} {S' : zi_S} (h : fX12_again_B43 n x1 w43 = some o) (hn : ∀ w43, o = Sum.inl w43 → zr kX12_again 2 1 43 [some (.ref 161), some (.int x1), some (.int w43.1)] [] (zS c w43.2) v S') (hx : ∀ z, o = Sum.inr z → (fun z => zr kX12_again 2 1 72 [some (.ref 161), none, none] [] (zS c z) v S') z) : zr kX12_again 2 1 43 [some (.ref 161), some (.int x1), some (.int w43.1)] [] (zS c w43.2) v S' := by
  unfold fX12_again_B43 at h
  refine zr_many 2 (pc' := 46) (L' := [some (.ref 161), some (.int x1), some (.int w43.1)]) (st' := [.int (42 : Int32), .int w43.1]) (S1 := zS c w43.2) rfl ?_
  refine zq_if2 (b := (42 : Int32) ≤ w43.1) rfl Iff.rfl rfl (fun g9 => ?_) (fun g9 => ?_)
  · rw [if_pos g9] at h
    obtain rfl := Option.some.inj h
    exact zr_wk [some (.ref 161), none, none] ⟨rfl, trivial⟩ (hx w43.2 rfl)
  · rw [if_neg g9] at h
    refine zr_many 1 (pc' := 50) (L' := [some (.ref 161), some (.int x1), some (.int w43.1)]) (st' := [.ref 161]) (S1 := zS c w43.2) rfl ?_
    refine zq_get rfl (zh_161 _) rfl rfl rfl ?_
    refine zr_many 2 (pc' := 55) (L' := [some (.ref 161), some (.int x1), some (.int w43.1)]) (st' := [.ref 161, .int w43.1, .ref 169]) (S1 := zS c w43.2) rfl ?_
    refine zq_get rfl (zh_161 _) rfl rfl rfl ?_
    refine zr_many 5 (pc' := 64) (L' := [some (.ref 161), some (.int x1), some (.int w43.1)]) (st' := [.int (((42 : Int32) * x1) + w43.1), .ref 190, .int w43.1, .ref 169]) (S1 := zS c w43.2) rfl ?_
    obtain ⟨g10, h⟩ := zi_cond_inv h
    refine zq_ild rfl (zh_190 _) rfl g10 rfl ?_
    obtain ⟨g11, h⟩ := zi_cond_inv h
    refine zq_ist rfl zh_169 rfl g11 rfl ?_
    refine zr_many 2 (pc' := 43) (L' := [some (.ref 161), some (.int x1), some (.int (w43.1 + (1 : Int32)))]) (st' := []) (S1 := zS c (zsi w43.2 169 w43.1.toNatClampNeg (w43.2.1 190 (((42 : Int32) * x1) + w43.1).toNatClampNeg))) rfl ?_
    obtain rfl := Option.some.inj h
    exact zr_wk [some (.ref 161), some (.int x1), some (.int (w43.1 + (1 : Int32)))] ⟨rfl, rfl, rfl, trivial⟩ (hn ((w43.1 + (1 : Int32)), (zsi w43.2 169 w43.1.toNatClampNeg (w43.2.1 190 (((42 : Int32) * x1) + w43.1).toNatClampNeg))) rfl)
def fX12_again (n : Nat) (s : zs) (x1 : Int32) : Option (Int32 × zs) := zp (fX12_in n (zsi s 161 0 (0 : Int32)) x1.toInt64 (0 : Int64) (2 : Int64)) (fun r1 => if r1 = 0 then fX12_again_J39 n (zsi s 161 0 (0 : Int32)) else cond (zi_in x1 3) (if ((zsi s 161 0 (0 : Int32)).1 188 x1.toNatClampNeg) = 0 then fX12_again_J39 n (zsi s 161 0 (0 : Int32)) else cond (zi_in x1 3) (if ((zsi s 161 0 (0 : Int32)).1 189 x1.toNatClampNeg) = ((zsi s 161 0 (0 : Int32)).1 161 7) then zp (zl (fX12_again_B43 n x1) n ((0 : Int32), (zsi s 161 0 (0 : Int32)))) (fun w12 => some ((1 : Int32), (zsi w12 161 31 (0 : Int32)))) else fX12_again_J39 n (zsi s 161 0 (0 : Int32))) none) none)
theorem tX12_again {n : Nat} {c : Nat × Nat} {s : zs} {x1 : Int32} {r : Int32} {s' : zs} (h : fX12_again n s x1 = some (r, s')) : zc 2 2512 [.ref 161, .int x1] (zS c s) (some (.int r)) (zS c s') := by
  refine zc_of (k := kX12_again) (rt := 2) (L := [some (.ref 161), some (.int x1), none]) zm_2512.1 rfl rfl (by decide) rfl rfl ?_
  unfold fX12_again at h
  refine zr_many 2 (pc' := 2) (L' := [some (.ref 161), some (.int x1), none]) (st' := [.int (0 : Int32), .ref 161]) (S1 := zS c s) rfl ?_
  refine zq_put (s' := (zsi s 161 0 (0 : Int32))) rfl (zh_161 _) rfl rfl rfl rfl zsi_ne rfl ?_
  refine zr_many 4 (pc' := 11) (L' := [some (.ref 161), some (.int x1), none]) (st' := [.long (2 : Int64), .long (0 : Int64), .long x1.toInt64]) (S1 := zS c (zsi s 161 0 (0 : Int32))) rfl ?_
  obtain ⟨r1, g3, h⟩ := zp_inv h
  refine zq_scall1 rfl (by decide) rfl rfl (tX12_in g3) rfl ?_
  refine zq_if1 (b := r1 = 0) rfl Iff.rfl rfl (fun g4 => ?_) (fun g4 => ?_)
  · rw [if_pos g4] at h
    exact zr_wk [none, none, none] trivial (tX12_again_J39 h)
  · rw [if_neg g4] at h
    refine zr_many 1 (pc' := 18) (L' := [some (.ref 161), some (.int x1), none]) (st' := [.ref 161]) (S1 := zS c (zsi s 161 0 (0 : Int32))) rfl ?_
    refine zq_get rfl (zh_161 _) rfl rfl rfl ?_
    refine zr_many 1 (pc' := 22) (L' := [some (.ref 161), some (.int x1), none]) (st' := [.int x1, .ref 188]) (S1 := zS c (zsi s 161 0 (0 : Int32))) rfl ?_
    obtain ⟨g5, h⟩ := zi_cond_inv h
    refine zq_zld rfl (zh_188 _) rfl g5 rfl ?_
    refine zq_if1 (b := ((zsi s 161 0 (0 : Int32)).1 188 x1.toNatClampNeg) = 0) rfl Iff.rfl rfl (fun g6 => ?_) (fun g6 => ?_)
    · rw [if_pos g6] at h
      exact zr_wk [none, none, none] trivial (tX12_again_J39 h)
    · rw [if_neg g6] at h
      refine zr_many 1 (pc' := 27) (L' := [some (.ref 161), some (.int x1), none]) (st' := [.ref 161]) (S1 := zS c (zsi s 161 0 (0 : Int32))) rfl ?_
      refine zq_get rfl (zh_161 _) rfl rfl rfl ?_
      refine zr_many 1 (pc' := 31) (L' := [some (.ref 161), some (.int x1), none]) (st' := [.int x1, .ref 189]) (S1 := zS c (zsi s 161 0 (0 : Int32))) rfl ?_
      obtain ⟨g7, h⟩ := zi_cond_inv h
      refine zq_ild rfl (zh_189 _) rfl g7 rfl ?_
      refine zr_many 1 (pc' := 33) (L' := [some (.ref 161), some (.int x1), none]) (st' := [.ref 161, .int ((zsi s 161 0 (0 : Int32)).1 189 x1.toNatClampNeg)]) (S1 := zS c (zsi s 161 0 (0 : Int32))) rfl ?_
      refine zq_get rfl (zh_161 _) rfl rfl rfl ?_
      refine zq_if2 (b := ((zsi s 161 0 (0 : Int32)).1 189 x1.toNatClampNeg) = ((zsi s 161 0 (0 : Int32)).1 161 7)) rfl Iff.rfl rfl (fun g8 => ?_) (fun g8 => ?_)
      · rw [if_pos g8] at h
        refine zr_many 2 (pc' := 43) (L' := [some (.ref 161), some (.int x1), some (.int (0 : Int32))]) (st' := []) (S1 := zS c (zsi s 161 0 (0 : Int32))) rfl ?_
        obtain ⟨w12, g13, h⟩ := zp_inv h
        refine zr_wk [some (.ref 161), some (.int x1), some (.int (0 : Int32))] ⟨rfl, rfl, rfl, trivial⟩ (zl_cert (Z := fun w43 => zr kX12_again 2 1 43 [some (.ref 161), some (.int x1), some (.int w43.1)] [] (zS c w43.2) _ _) (Y := (fun z => zr kX12_again 2 1 72 [some (.ref 161), none, none] [] (zS c z) _ _)) (fun w o h1 h2 h3 => tX12_again_B43 h1 h2 h3) n _ _ g13 ?_)
        show zr kX12_again 2 1 72 [some (.ref 161), none, none] [] (zS c w12) _ _
        refine zr_many 2 (pc' := 74) (L' := [some (.ref 161), none, none]) (st' := [.int (0 : Int32), .ref 161]) (S1 := zS c w12) rfl ?_
        refine zq_put (s' := (zsi w12 161 31 (0 : Int32))) rfl (zh_161 _) rfl rfl rfl rfl zsi_ne rfl ?_
        refine zr_many 1 (pc' := 78) (L' := [some (.ref 161), none, none]) (st' := [.int (1 : Int32)]) (S1 := zS c (zsi w12 161 31 (0 : Int32))) rfl ?_
        obtain ⟨rfl, rfl⟩ := Prod.mk.inj (Option.some.inj h)
        exact zq_zret rfl (by decide)
      · rw [if_neg g8] at h
        exact zr_wk [none, none, none] trivial (tX12_again_J39 h)
def fX12_levels_B4 (n : Nat) (s : zs) (w4 : Int32 × Int32) : Option ((Int32 × Int32) ⊕ (Int32)) := if (s.1 161 3) ≤ w4.2 then some (Sum.inr w4.1) else cond (zi_in w4.2 42) (some (Sum.inl ((w4.1 ||| ((s.1 169 w4.2.toNatClampNeg) <<< (w4.2 &&& 31))), (w4.2 + (1 : Int32))))) none
theorem tX12_levels_B4 {n : Nat} {c : Nat × Nat} {s : zs} {w4 : Int32 × Int32} {o : _} {v : Option Value} {S' : zi_S} (h : fX12_levels_B4 n s w4 = some o) (hn : ∀ w4, o = Sum.inl w4 → zr kX12_levels 1 0 4 [some (.ref 161), some (.int w4.1), some (.int w4.2)] [] (zS c s) v S') (hx : ∀ z, o = Sum.inr z → (fun z => zr kX12_levels 1 0 29 [none, some (.int z), none] [] (zS c s) v S') z) : zr kX12_levels 1 0 4 [some (.ref 161), some (.int w4.1), some (.int w4.2)] [] (zS c s) v S' := by
  unfold fX12_levels_B4 at h
  refine zr_many 2 (pc' := 6) (L' := [some (.ref 161), some (.int w4.1), some (.int w4.2)]) (st' := [.ref 161, .int w4.2]) (S1 := zS c s) rfl ?_
  refine zq_get rfl (zh_161 _) rfl rfl rfl ?_
  refine zq_if2 (b := (s.1 161 3) ≤ w4.2) rfl Iff.rfl rfl (fun g1 => ?_) (fun g1 => ?_)
  · rw [if_pos g1] at h
    obtain rfl := Option.some.inj h
    exact zr_wk [none, some (.int w4.1), none] ⟨rfl, trivial⟩ (hx w4.1 rfl)
  · rw [if_neg g1] at h
    refine zr_many 2 (pc' := 14) (L' := [some (.ref 161), some (.int w4.1), some (.int w4.2)]) (st' := [.ref 161, .int w4.1]) (S1 := zS c s) rfl ?_
    refine zq_get rfl (zh_161 _) rfl rfl rfl ?_
    refine zr_many 1 (pc' := 18) (L' := [some (.ref 161), some (.int w4.1), some (.int w4.2)]) (st' := [.int w4.2, .ref 169, .int w4.1]) (S1 := zS c s) rfl ?_
    obtain ⟨g2, h⟩ := zi_cond_inv h
    refine zq_ild rfl (zh_169 _) rfl g2 rfl ?_
    refine zr_many 6 (pc' := 4) (L' := [some (.ref 161), some (.int (w4.1 ||| ((s.1 169 w4.2.toNatClampNeg) <<< (w4.2 &&& 31)))), some (.int (w4.2 + (1 : Int32)))]) (st' := []) (S1 := zS c s) rfl ?_
    obtain rfl := Option.some.inj h
    exact zr_wk [some (.ref 161), some (.int (w4.1 ||| ((s.1 169 w4.2.toNatClampNeg) <<< (w4.2 &&& 31)))), some (.int (w4.2 + (1 : Int32)))] ⟨rfl, rfl, rfl, trivial⟩ (hn ((w4.1 ||| ((s.1 169 w4.2.toNatClampNeg) <<< (w4.2 &&& 31))), (w4.2 + (1 : Int32))) rfl)
def fX12_levels (n : Nat) (s : zs) : Option Int32 := zp (zl (fX12_levels_B4 n s) n ((0 : Int32), (0 : Int32))) (fun w3 => some w3)
theorem tX12_levels {n : Nat} {c : Nat × Nat} {s : zs} {r : Int32} (h : fX12_levels n s = some r) : zc 1 2513 [.ref 161] (zS c s) (some (.int r)) (zS c s) := by
  refine zc_of (k := kX12_levels) (rt := 1) (L := [some (.ref 161), none, none]) zm_2513.1 rfl rfl (by decide) rfl rfl ?_
  unfold fX12_levels at h
  refine zr_many 4 (pc' := 4) (L' := [some (.ref 161), some (.int (0 : Int32)), some (.int (0 : Int32))]) (st' := []) (S1 := zS c s) rfl ?_
  obtain ⟨w3, g4, h⟩ := zp_inv h
  refine zr_wk [some (.ref 161), some (.int (0 : Int32)), some (.int (0 : Int32))] ⟨rfl, rfl, rfl, trivial⟩ (zl_cert (Z := fun w4 => zr kX12_levels 1 0 4 [some (.ref 161), some (.int w4.1), some (.int w4.2)] [] (zS c s) _ _) (Y := (fun z => zr kX12_levels 1 0 29 [none, some (.int z), none] [] (zS c s) _ _)) (fun w o h1 h2 h3 => tX12_levels_B4 h1 h2 h3) n _ _ g4 ?_)
  show zr kX12_levels 1 0 29 [none, some (.int w3), none] [] (zS c s) _ _
  refine zr_many 1 (pc' := 30) (L' := [none, some (.int w3), none]) (st' := [.int w3]) (S1 := zS c s) rfl ?_
  obtain rfl := Option.some.inj h
  exact zq_iret rfl
def fX12_count (n : Nat) (s : zs) (x1 : Int32) : Option (Int32 × zs) := if x1 = (0 : Int32) then some (((zsi s 161 0 (0 : Int32)).1 161 3), (zsi s 161 0 (0 : Int32))) else if x1 = (1 : Int32) then some (((zsi s 161 0 (0 : Int32)).1 161 4), (zsi s 161 0 (0 : Int32))) else if x1 = (2 : Int32) then some (((zsi s 161 0 (0 : Int32)).1 161 5), (zsi s 161 0 (0 : Int32))) else if x1 = (3 : Int32) then some (((zsi s 161 0 (0 : Int32)).1 169 9), (zsi s 161 0 (0 : Int32))) else if x1 = (4 : Int32) then some (((zsi s 161 0 (0 : Int32)).1 169 8), (zsi s 161 0 (0 : Int32))) else if x1 = (5 : Int32) then some (((zsi s 161 0 (0 : Int32)).1 161 6), (zsi s 161 0 (0 : Int32))) else if x1 = (6 : Int32) then zp (fX12_levels n (zsi s 161 0 (0 : Int32))) (fun r10 => some (r10, (zsi s 161 0 (0 : Int32)))) else if x1 = (7 : Int32) then zp (fX12_crew n (zsi s 161 0 (0 : Int32)) 169 (-1 : Int32)) (fun r14 => some (r14, (zsi s 161 0 (0 : Int32)))) else if x1 = (8 : Int32) then zp (fX12_tiredAll n (zsi s 161 0 (0 : Int32)) 169 (((1 : Int32) <<< (((zsi s 161 0 (0 : Int32)).1 161 4) &&& 31)) - (1 : Int32))) (fun r18 => some (r18, (zsi s 161 0 (0 : Int32)))) else if x1 = (9 : Int32) then some (((zsi s 161 0 (0 : Int32)).1 161 45), (zsi s 161 0 (0 : Int32))) else if x1 = (10 : Int32) then some (((zsi s 161 0 (0 : Int32)).1 161 31), (zsi s 161 0 (0 : Int32))) else if x1 = (11 : Int32) then some (((zsi s 161 0 (0 : Int32)).1 161 1), (zsi s 161 0 (0 : Int32))) else if x1 = (12 : Int32) then some (((zsi s 161 0 (0 : Int32)).1 161 17), (zsi s 161 0 (0 : Int32))) else some ((-100 : Int32), (zsi s 161 0 (0 : Int32)))
theorem tX12_count {n : Nat} {c : Nat × Nat} {s : zs} {x1 : Int32} {r : Int32} {s' : zs} (h : fX12_count n s x1 = some (r, s')) : zc 3 2514 [.ref 161, .int x1] (zS c s) (some (.int r)) (zS c s') := by
  refine zc_of (k := kX12_count) (rt := 1) (L := [some (.ref 161), some (.int x1)]) zm_2514.1 rfl rfl (by decide) rfl rfl ?_
  unfold fX12_count at h
  refine zr_many 2 (pc' := 2) (L' := [some (.ref 161), some (.int x1)]) (st' := [.int (0 : Int32), .ref 161]) (S1 := zS c s) rfl ?_
  refine zq_put (s' := (zsi s 161 0 (0 : Int32))) rfl (zh_161 _) rfl rfl rfl rfl zsi_ne rfl ?_
  refine zr_many 1 (pc' := 6) (L' := [some (.ref 161), some (.int x1)]) (st' := [.int x1]) (S1 := zS c (zsi s 161 0 (0 : Int32))) rfl ?_
  refine zq_sw (Or.inl ⟨_, _, _, _, rfl⟩) ?_
  by_cases g1 : x1 = (0 : Int32)
  · rw [if_pos g1] at h
    rw [zi_sw_pos g1]
    refine zr_many 1 (pc' := 73) (L' := [some (.ref 161), some (.int x1)]) (st' := [.ref 161]) (S1 := zS c (zsi s 161 0 (0 : Int32))) rfl ?_
    refine zq_get rfl (zh_161 _) rfl rfl rfl ?_
    obtain ⟨rfl, rfl⟩ := Prod.mk.inj (Option.some.inj h)
    exact zq_iret rfl
  rw [if_neg g1] at h
  rw [zi_sw_neg g1]
  by_cases g2 : x1 = (1 : Int32)
  · rw [if_pos g2] at h
    rw [zi_sw_pos g2]
    refine zr_many 1 (pc' := 78) (L' := [some (.ref 161), some (.int x1)]) (st' := [.ref 161]) (S1 := zS c (zsi s 161 0 (0 : Int32))) rfl ?_
    refine zq_get rfl (zh_161 _) rfl rfl rfl ?_
    obtain ⟨rfl, rfl⟩ := Prod.mk.inj (Option.some.inj h)
    exact zq_iret rfl
  rw [if_neg g2] at h
  rw [zi_sw_neg g2]
  by_cases g3 : x1 = (2 : Int32)
  · rw [if_pos g3] at h
    rw [zi_sw_pos g3]
    refine zr_many 1 (pc' := 83) (L' := [some (.ref 161), some (.int x1)]) (st' := [.ref 161]) (S1 := zS c (zsi s 161 0 (0 : Int32))) rfl ?_
    refine zq_get rfl (zh_161 _) rfl rfl rfl ?_
    obtain ⟨rfl, rfl⟩ := Prod.mk.inj (Option.some.inj h)
    exact zq_iret rfl
  rw [if_neg g3] at h
  rw [zi_sw_neg g3]
  by_cases g4 : x1 = (3 : Int32)
  · rw [if_pos g4] at h
    rw [zi_sw_pos g4]
    refine zr_many 1 (pc' := 88) (L' := [some (.ref 161), some (.int x1)]) (st' := [.ref 161]) (S1 := zS c (zsi s 161 0 (0 : Int32))) rfl ?_
    refine zq_get rfl (zh_161 _) rfl rfl rfl ?_
    refine zr_many 1 (pc' := 93) (L' := [some (.ref 161), some (.int x1)]) (st' := [.int (9 : Int32), .ref 169]) (S1 := zS c (zsi s 161 0 (0 : Int32))) rfl ?_
    refine zq_ild rfl (zh_169 _) rfl (by decide) rfl ?_
    obtain ⟨rfl, rfl⟩ := Prod.mk.inj (Option.some.inj h)
    exact zq_iret rfl
  rw [if_neg g4] at h
  rw [zi_sw_neg g4]
  by_cases g6 : x1 = (4 : Int32)
  · rw [if_pos g6] at h
    rw [zi_sw_pos g6]
    refine zr_many 1 (pc' := 96) (L' := [some (.ref 161), some (.int x1)]) (st' := [.ref 161]) (S1 := zS c (zsi s 161 0 (0 : Int32))) rfl ?_
    refine zq_get rfl (zh_161 _) rfl rfl rfl ?_
    refine zr_many 1 (pc' := 101) (L' := [some (.ref 161), some (.int x1)]) (st' := [.int (8 : Int32), .ref 169]) (S1 := zS c (zsi s 161 0 (0 : Int32))) rfl ?_
    refine zq_ild rfl (zh_169 _) rfl (by decide) rfl ?_
    obtain ⟨rfl, rfl⟩ := Prod.mk.inj (Option.some.inj h)
    exact zq_iret rfl
  rw [if_neg g6] at h
  rw [zi_sw_neg g6]
  by_cases g8 : x1 = (5 : Int32)
  · rw [if_pos g8] at h
    rw [zi_sw_pos g8]
    refine zr_many 1 (pc' := 104) (L' := [some (.ref 161), some (.int x1)]) (st' := [.ref 161]) (S1 := zS c (zsi s 161 0 (0 : Int32))) rfl ?_
    refine zq_get rfl (zh_161 _) rfl rfl rfl ?_
    obtain ⟨rfl, rfl⟩ := Prod.mk.inj (Option.some.inj h)
    exact zq_iret rfl
  rw [if_neg g8] at h
  rw [zi_sw_neg g8]
  by_cases g9 : x1 = (6 : Int32)
  · rw [if_pos g9] at h
    rw [zi_sw_pos g9]
    refine zr_many 1 (pc' := 109) (L' := [some (.ref 161), some (.int x1)]) (st' := [.ref 161]) (S1 := zS c (zsi s 161 0 (0 : Int32))) rfl ?_
    obtain ⟨r10, g12, h⟩ := zp_inv h
    refine zq_call1 rfl rfl (zh_161 _) rfl rfl rfl ((tX12_levels g12).up (by decide)) rfl ?_
    obtain ⟨rfl, rfl⟩ := Prod.mk.inj (Option.some.inj h)
    exact zq_iret rfl
  rw [if_neg g9] at h
  rw [zi_sw_neg g9]
  by_cases g13 : x1 = (7 : Int32)
  · rw [if_pos g13] at h
    rw [zi_sw_pos g13]
    refine zr_many 2 (pc' := 115) (L' := [some (.ref 161), some (.int x1)]) (st' := [.ref 161, .ref 161]) (S1 := zS c (zsi s 161 0 (0 : Int32))) rfl ?_
    refine zq_get rfl (zh_161 _) rfl rfl rfl ?_
    refine zr_many 1 (pc' := 119) (L' := [some (.ref 161), some (.int x1)]) (st' := [.int (-1 : Int32), .ref 169, .ref 161]) (S1 := zS c (zsi s 161 0 (0 : Int32))) rfl ?_
    obtain ⟨r14, g16, h⟩ := zp_inv h
    refine zq_call1 rfl rfl (zh_161 _) rfl rfl rfl (tX12_crew zR_n g16) rfl ?_
    obtain ⟨rfl, rfl⟩ := Prod.mk.inj (Option.some.inj h)
    exact zq_iret rfl
  rw [if_neg g13] at h
  rw [zi_sw_neg g13]
  by_cases g17 : x1 = (8 : Int32)
  · rw [if_pos g17] at h
    rw [zi_sw_pos g17]
    refine zr_many 2 (pc' := 125) (L' := [some (.ref 161), some (.int x1)]) (st' := [.ref 161, .ref 161]) (S1 := zS c (zsi s 161 0 (0 : Int32))) rfl ?_
    refine zq_get rfl (zh_161 _) rfl rfl rfl ?_
    refine zr_many 2 (pc' := 130) (L' := [some (.ref 161), some (.int x1)]) (st' := [.ref 161, .int (1 : Int32), .ref 169, .ref 161]) (S1 := zS c (zsi s 161 0 (0 : Int32))) rfl ?_
    refine zq_get rfl (zh_161 _) rfl rfl rfl ?_
    refine zr_many 3 (pc' := 136) (L' := [some (.ref 161), some (.int x1)]) (st' := [.int (((1 : Int32) <<< (((zsi s 161 0 (0 : Int32)).1 161 4) &&& 31)) - (1 : Int32)), .ref 169, .ref 161]) (S1 := zS c (zsi s 161 0 (0 : Int32))) rfl ?_
    obtain ⟨r18, g20, h⟩ := zp_inv h
    refine zq_call1 rfl rfl (zh_161 _) rfl rfl rfl (tX12_tiredAll zR_n g20) rfl ?_
    obtain ⟨rfl, rfl⟩ := Prod.mk.inj (Option.some.inj h)
    exact zq_iret rfl
  rw [if_neg g17] at h
  rw [zi_sw_neg g17]
  by_cases g21 : x1 = (9 : Int32)
  · rw [if_pos g21] at h
    rw [zi_sw_pos g21]
    refine zr_many 1 (pc' := 141) (L' := [some (.ref 161), some (.int x1)]) (st' := [.ref 161]) (S1 := zS c (zsi s 161 0 (0 : Int32))) rfl ?_
    refine zq_get rfl (zh_161 _) rfl rfl rfl ?_
    obtain ⟨rfl, rfl⟩ := Prod.mk.inj (Option.some.inj h)
    exact zq_iret rfl
  rw [if_neg g21] at h
  rw [zi_sw_neg g21]
  by_cases g22 : x1 = (10 : Int32)
  · rw [if_pos g22] at h
    rw [zi_sw_pos g22]
    refine zr_many 1 (pc' := 146) (L' := [some (.ref 161), some (.int x1)]) (st' := [.ref 161]) (S1 := zS c (zsi s 161 0 (0 : Int32))) rfl ?_
    refine zq_get rfl (zh_161 _) rfl rfl rfl ?_
    obtain ⟨rfl, rfl⟩ := Prod.mk.inj (Option.some.inj h)
    exact zq_iret rfl
  rw [if_neg g22] at h
  rw [zi_sw_neg g22]
  by_cases g23 : x1 = (11 : Int32)
  · rw [if_pos g23] at h
    rw [zi_sw_pos g23]
    refine zr_many 1 (pc' := 151) (L' := [some (.ref 161), some (.int x1)]) (st' := [.ref 161]) (S1 := zS c (zsi s 161 0 (0 : Int32))) rfl ?_
    refine zq_get rfl (zh_161 _) rfl rfl rfl ?_
    obtain ⟨rfl, rfl⟩ := Prod.mk.inj (Option.some.inj h)
    exact zq_iret rfl
  rw [if_neg g23] at h
  rw [zi_sw_neg g23]
  by_cases g24 : x1 = (12 : Int32)
  · rw [if_pos g24] at h
    rw [zi_sw_pos g24]
    refine zr_many 1 (pc' := 156) (L' := [some (.ref 161), some (.int x1)]) (st' := [.ref 161]) (S1 := zS c (zsi s 161 0 (0 : Int32))) rfl ?_
    refine zq_get rfl (zh_161 _) rfl rfl rfl ?_
    obtain ⟨rfl, rfl⟩ := Prod.mk.inj (Option.some.inj h)
    exact zq_iret rfl
  rw [if_neg g24] at h
  rw [zi_sw_neg g24]
  simp only [zi_sw]
  refine zr_many 1 (pc' := 162) (L' := [some (.ref 161), some (.int x1)]) (st' := [.int (-100 : Int32)]) (S1 := zS c (zsi s 161 0 (0 : Int32))) rfl ?_
  obtain ⟨rfl, rfl⟩ := Prod.mk.inj (Option.some.inj h)
  exact zq_iret rfl
